/** What the tests of edges tell an object first. */
final class Given {
    private Given() {
    }

    static void nothing(MaskBows x) {
        x.count(0);
    }

    /** Something of everything: five persons, an image, a tape, three sheets; sheet 3 is missing. */
    static void much(MaskBows x) {
        x.people(5);
        x.bow(2, 0, 1, 10);
        x.bow(5, 1, 2, 4);
        x.bow(3, 4, 3, 7);
        x.deed(5, 6, 1, 0, 33);
        x.deed(4, 3, 2, 4, 8);
        x.says(4, 0, 1, true);
        x.image();
        x.bow(9, 0, 2, 6);
        x.deed(2, 9, 0, 3, 50);
        x.says(9, 2, 0, false);
        sheetOf(x, 0, 8, 1, 0, 2, -4, 10);
        sheetOf(x, 1, 16, 700, 7, 70);
        sheetOf(x, 2, 64, 10, 11, 5, 1L << 40);
        Due.feed(x, "bow 7 0 3;rule on");
    }

    /** So much, and none of its nights holds. */
    static void noneHolds(MaskBows x) {
        much(x);
        x.says(0, 0, 1, true);
        x.let(1, true);
    }

    static void sixDoubted(MaskBows x) {
        for (int i = 0; i < 6; i++) {
            x.bow(i, 0, 1 + i % 3, 9 - i);
        }
        x.bow(6, 0, 1, 10);
        x.bow(7, 2, 3, 10);
    }

    /** Twenty bows, of which bows 2 and 19 are doubted. */
    static void twentyBows(MaskBows x) {
        for (int i = 0; i < 20; i++) {
            x.bow(i, i % 4, (i + 1) % 4, i == 2 ? 3 : i == 19 ? 6 : 10);
        }
    }

    static void twelveDeeds(MaskBows x) {
        x.bow(5, 0, 1, 3);
        for (int i = 0; i < 12; i++) {
            x.deed(i % 6, i, i % 4, (i + 1) % 4, 80 + i);
        }
    }

    static void tenSayings(MaskBows x) {
        x.bow(5, 0, 1, 3);
        for (int i = 0; i < 10; i++) {
            x.says(i, i % 4, (i + 3) % 4, i % 2 == 0);
        }
    }

    static void sheetOf(MaskBows x, int s, int bits, long... numbers) {
        x.sheet(s, bits, numbers.length);
        for (int i = 0; i < numbers.length; i++) {
            x.write(s, i, numbers[i]);
        }
    }

    /** A seen bow at each hour of the list, masks 0 and 1. */
    static Edge.Told bowsAt(int... hours) {
        return x -> {
            for (int hour : hours) {
                x.bow(hour, 0, 1, 10);
            }
        };
    }
}
