/** Promises 1 to 8: what is told of a night. */
public final class NightTest {
    public static void main(String[] args) {
        newObject();
        people();
        bow();
        bowOf();
        doubt();
        let();
        says();
        sayingOf();
        Due.end("NightTest");
    }

    private static void newObject() {
        MaskBows x = new MaskBows();
        int[] counts = {4, 0, 0, 0, 0, 0};
        for (int what = 0; what < 6; what++) {
            Due.is("1: count(" + what + ")", counts[what], x.count(what));
        }
        Due.is("1: status(-1)", 0, x.status(-1));
        Due.is("1: tear()", 0, x.tear());
        Due.is("1: the rule is off", 0, x.let(0, false));
        Due.is("1: sayings are not believed", 0, x.let(1, false));
        for (int mask = 0; mask < 4; mask++) {
            Due.is("1: wore(" + mask + ", 99)", mask, x.wore(mask, 99));
            Due.is("1: write to a sheet", Due.MISSING, x.write(mask, 0, 1));
        }
        MaskBows y = new MaskBows();
        y.bow(0, 0, 1, 10);
        Due.is("1: objects share nothing", 0, x.count(1));
    }

    private static void people() {
        MaskBows x = new MaskBows();
        Due.is("2: people(1)", Due.BEYOND, x.people(1));
        Due.is("2: people(9)", Due.BEYOND, x.people(9));
        Due.is("2: people(least)", Due.BEYOND, x.people(Integer.MIN_VALUE));
        Due.is("2: people(2)", 4, x.people(2));
        Due.is("2: people(8)", 2, x.people(8));
        Due.is("2: people(8) again", 8, x.people(8));
        Due.is("2: N", 8, x.count(0));
        Due.is("2: mask 7 is there", 7, x.wore(7, 0));
        Due.is("2: may(7, 0)", 128, x.may(7, 0));
        x.image();
        x.bow(0, 6, 7, 10);
        Due.is("2: BEYOND ahead of STATE", Due.BEYOND, x.people(9));
        Due.is("2: a bow", Due.STATE, x.people(8));
        x.undo();
        x.deed(0, 0, 0, 1, 0);
        Due.is("2: a deed", Due.STATE, x.people(3));
        x.undo();
        x.says(0, 0, 1, true);
        Due.is("2: a saying", Due.STATE, x.people(3));
        x.undo();
        x.let(0, true);
        Due.is("2: a rule alone is no bar", 8, x.people(3));
        Due.is("2: mask 3 is no more", Due.BEYOND, x.wore(3, 0));
        Due.is("2: STATE was counted", 3, x.status(4));
    }

    private static void bow() {
        MaskBows x = new MaskBows();
        int[][] wrong = {
            {-1, 0, 1, 10}, {100, 0, 1, 10}, {0, -1, 1, 10}, {0, 4, 1, 10}, {0, 0, -1, 10}, {0, 0, 4, 10},
            {0, 2, 2, 10}, {0, 0, 1, -1}, {0, 0, 1, 11},
        };
        for (int[] w : wrong) {
            Due.is("3: a wrong bow", Due.BEYOND, x.bow(w[0], w[1], w[2], w[3]));
        }
        Due.is("3: none came", 0, x.count(1));
        for (int i = 0; i < 6; i++) {
            Due.is("3: doubted bow " + i, i, x.bow(99, 0, 3, i));
        }
        Due.is("3: a 7th doubted one", Due.FULL, x.bow(0, 0, 1, 9));
        for (int i = 6; i < 20; i++) {
            Due.is("3: seen bow " + i, i, x.bow(i, 0, 1, 10));
        }
        Due.is("3: BEYOND ahead of FULL", Due.BEYOND, x.bow(0, 0, 0, 10));
        Due.is("3: a 21st", Due.FULL, x.bow(0, 0, 1, 10));
        Due.is("3: how many", 20, x.count(1));
        Due.is("3: how many doubted", 6, x.count(2));
        orderOfBows();
    }

    private static void orderOfBows() {
        MaskBows x = new MaskBows();
        x.bow(5, 1, 2, 10);
        x.bow(3, 0, 1, 10);
        x.bow(5, 0, 2, 10);
        Due.is("3: ahead of all bows", 0, x.wore(0, 2));
        Due.is("3: the bow of hour 3 is first", 1, x.wore(0, 3));
        // Hour 3: 1 0 2. Hour 5, bow 0: 1 2 0, then bow 2: 0 2 1.
        Due.is("3: at one hour by numbers, mask 0", 0, x.wore(0, 5));
        Due.is("3: at one hour by numbers, mask 1", 2, x.wore(1, 5));
        Due.is("3: at one hour by numbers, mask 2", 1, x.wore(2, 5));
    }

    private static void bowOf() {
        MaskBows x = new MaskBows();
        Due.is("4: no bow yet", Due.BEYOND, x.bowOf(0, 0));
        x.bow(7, 3, 1, 4);
        int[] parts = {7, 3, 1, 4};
        for (int what = 0; what < 4; what++) {
            Due.is("4: bowOf(0, " + what + ")", parts[what], x.bowOf(0, what));
        }
        Due.is("4: what 4", Due.BEYOND, x.bowOf(0, 4));
        Due.is("4: what -1", Due.BEYOND, x.bowOf(0, -1));
        Due.is("4: bow 1", Due.BEYOND, x.bowOf(1, 0));
        Due.is("4: bow -1", Due.BEYOND, x.bowOf(-1, 0));
    }

    private static void doubt() {
        MaskBows x = new MaskBows();
        for (int i = 0; i < 8; i++) {
            x.bow(0, 0, 1, 10);
        }
        Due.is("5: bow 8", Due.BEYOND, x.doubt(8, 0));
        Due.is("5: bow -1", Due.BEYOND, x.doubt(-1, 0));
        Due.is("5: v -1", Due.BEYOND, x.doubt(0, -1));
        Due.is("5: v 11", Due.BEYOND, x.doubt(0, 11));
        for (int i = 0; i < 6; i++) {
            Due.is("5: doubt " + i, 10, x.doubt(i, i));
        }
        Due.is("5: BEYOND ahead of FULL", Due.BEYOND, x.doubt(6, 11));
        Due.is("5: a 7th", Due.FULL, x.doubt(6, 0));
        Due.is("5: nothing changed", 10, x.bowOf(6, 3));
        Due.is("5: seen it may stay", 10, x.doubt(6, 10));
        Due.is("5: one of the six may change", 5, x.doubt(5, 9));
        Due.is("5: one of the six may be seen", 9, x.doubt(5, 10));
        Due.is("5: then another may be doubted", 10, x.doubt(6, 0));
        Due.is("5: six", 6, x.count(2));
    }

    private static void let() {
        MaskBows x = new MaskBows();
        Due.is("6: what 2", Due.BEYOND, x.let(2, true));
        Due.is("6: what -1", Due.BEYOND, x.let(-1, false));
        for (int what = 0; what < 2; what++) {
            Due.is("6: on is new", 1, x.let(what, true));
            Due.is("6: on again", 0, x.let(what, true));
            Due.is("6: off is new", 1, x.let(what, false));
            Due.is("6: off again", 0, x.let(what, false));
        }
        x.bow(0, 0, 1, 10);
        x.bow(1, 1, 0, 10);
        x.says(0, 0, 0, true);
        Due.is("6: neither bars", 1, x.nights());
        x.let(0, true);
        Due.is("6: the rule bars", 0, x.nights());
        x.let(0, false);
        x.let(1, true);
        Due.is("6: the saying bars", 0, x.nights());
    }

    private static void says() {
        MaskBows x = new MaskBows();
        int[][] wrong = {{-1, 0, 0}, {100, 0, 0}, {0, -1, 0}, {0, 4, 0}, {0, 0, -1}, {0, 0, 4}};
        for (int[] w : wrong) {
            Due.is("7: a wrong saying", Due.BEYOND, x.says(w[0], w[1], w[2], true));
        }
        for (int i = 0; i < 10; i++) {
            Due.is("7: saying " + i, i, x.says(99, 3, 3, i != 3));
        }
        Due.is("7: BEYOND ahead of FULL", Due.BEYOND, x.says(100, 0, 0, false));
        Due.is("7: an 11th", Due.FULL, x.says(0, 0, 0, true));
        Due.is("7: how many", 10, x.count(4));
        Due.is("7: saying 3 can't be true", 3, x.lie());
    }

    private static void sayingOf() {
        MaskBows x = new MaskBows();
        Due.is("8: none yet", Due.BEYOND, x.sayingOf(0, 0));
        x.says(42, 3, 1, true);
        x.says(0, 0, 2, false);
        int[][] parts = {{42, 3, 1, 1}, {0, 0, 2, 0}};
        for (int saying = 0; saying < 2; saying++) {
            for (int what = 0; what < 4; what++) {
                Due.is("8: of " + saying + ", " + what, parts[saying][what], x.sayingOf(saying, what));
            }
        }
        Due.is("8: what 4", Due.BEYOND, x.sayingOf(0, 4));
        Due.is("8: what -1", Due.BEYOND, x.sayingOf(0, -1));
        Due.is("8: saying 2", Due.BEYOND, x.sayingOf(2, 0));
        Due.is("8: saying -1", Due.BEYOND, x.sayingOf(-1, 0));
    }
}
