/** Promises 37 to 42: sheets. */
public final class SheetTest {
    public static void main(String[] args) {
        sheet();
        write();
        copy();
        lays();
        ledger();
        read();
        Due.end("SheetTest");
    }

    private static void sheet() {
        MaskBows x = new MaskBows();
        Due.is("37: sheet 4", Due.BEYOND, x.sheet(4, 8, 1));
        Due.is("37: sheet -1", Due.BEYOND, x.sheet(-1, 8, 1));
        int[] wrong = {-8, 1, 7, 9, 32, 63, 65};
        for (int bits : wrong) {
            Due.is("37: bits " + bits, Due.BEYOND, x.sheet(0, bits, 1));
            Due.is("37: other bits ahead of SIZE", Due.BEYOND, x.sheet(0, bits, -1));
        }
        int[] right = {8, 16, 64, 0};
        for (int bits : right) {
            Due.is("37: n -1 of " + bits, Due.SIZE, x.sheet(0, bits, -1));
            Due.is("37: n least of " + bits, Due.SIZE, x.sheet(0, bits, Integer.MIN_VALUE));
            Due.is("37: n 41 of " + bits, Due.BEYOND, x.sheet(0, bits, 41));
            Due.is("37: n 40 of " + bits, bits == 0 ? 0 : 40, x.sheet(0, bits, 40));
        }
        Due.is("37: it is missing", Due.MISSING, x.write(0, 0, 0));
        Due.is("37: n 0", 0, x.sheet(0, 8, 0));
        Due.is("37: empty, not missing", Due.BEYOND, x.write(0, 0, 0));
        x.sheet(3, 16, 2);
        x.write(3, 0, 6);
        x.write(3, 1, 7);
        Due.is("37: again", 3, x.sheet(3, 16, 3));
        dueNumbers("37: all are 0", x, 3, 0, 0, 0);
        Due.is("37: SIZE was counted", 8, x.status(6));
    }

    private static void write() {
        MaskBows x = new MaskBows();
        Due.is("38: sheet 4", Due.BEYOND, x.write(4, 0, 0));
        Due.is("38: sheet -1", Due.BEYOND, x.write(-1, 0, 0));
        Due.is("38: missing ahead of the place", Due.MISSING, x.write(0, 99, 0));
        x.sheet(0, 8, 3);
        x.sheet(1, 16, 3);
        x.sheet(2, 64, 3);
        Due.is("38: place 3", Due.BEYOND, x.write(0, 3, 0));
        Due.is("38: place -1", Due.BEYOND, x.write(0, -1, 0));
        long[] values = {255, 128, 127, 256, -1, 65535, 32768, 32767, 65536, Long.MIN_VALUE, Long.MAX_VALUE, -1000000001L};
        for (long v : values) {
            x.write(0, 2, v);
            x.write(1, 2, v);
            x.write(2, 2, v);
            Due.is("38: 8 bits of " + v, (byte) v, x.write(0, 2, 0));
            Due.is("38: 16 bits of " + v, (short) v, x.write(1, 2, 0));
            Due.is("38: 64 bits of " + v, v, x.write(2, 2, 0));
        }
        x.write(0, 0, 255);
        Due.is("38: 255 of 8 bits", -1, x.write(0, 0, 1));
        Due.is("38: others stay", 0, x.write(0, 1, 0));
        Due.is("38: a number like a finding is none", 4, x.status(-1) - x.status(5));
    }

    private static MaskBows counted() {
        MaskBows x = new MaskBows();
        x.sheet(0, 8, 6);
        x.sheet(1, 8, 4);
        x.sheet(2, 16, 6);
        for (int i = 0; i < 6; i++) {
            x.write(0, i, i + 1);
        }
        return x;
    }

    private static void dueNumbers(String what, MaskBows x, int s, int... want) {
        for (int i = 0; i < want.length; i++) {
            Due.is(what + ", number " + i, want[i], x.write(s, i, 0));
        }
    }

    private static void copy() {
        MaskBows x = counted();
        Due.is("39: to another", 3, x.copy(0, 2, 1, 1, 3));
        dueNumbers("39: there", x, 1, 0, 3, 4, 5);
        dueNumbers("39: here", x, 0, 1, 2, 3, 4, 5, 6);
        x = counted();
        Due.is("39: onto itself, up", 4, x.copy(0, 0, 0, 1, 4));
        dueNumbers("39: as they all were", x, 0, 1, 1, 2, 3, 4, 6);
        x = counted();
        Due.is("39: onto itself, down", 4, x.copy(0, 2, 0, 0, 4));
        dueNumbers("39: as they all were", x, 0, 3, 4, 5, 6, 5, 6);
        x = counted();
        Due.is("39: n 0 at both ends", 0, x.copy(0, 6, 1, 4, 0));
        x.sheet(1, 8, 6);
        Due.is("39: all of it", 6, x.copy(0, 0, 1, 0, 6));
        dueNumbers("39: all of it", x, 1, 1, 2, 3, 4, 5, 6);
        x.sheet(1, 8, 4);
        int[][] beyond = {
            {-1, 0, 0, 0, 0}, {4, 0, 3, 0, 0}, {0, 0, -1, 0, 0}, {3, 0, 4, 0, 0},
            {0, 7, 1, 0, 0}, {0, 0, 1, 5, 0}, {0, 3, 1, 0, 4}, {0, 0, 1, 1, 4}, {0, 0, 1, 0, 5}, {1, 0, 0, 0, 5},
            {0, -1, 1, 0, 1}, {0, 0, 1, -1, 1}, {0, 0, 1, 0, -1}, {0, Integer.MAX_VALUE, 1, 0, 1},
            {0, 1, 1, 0, Integer.MAX_VALUE}, {0, 0, 1, Integer.MAX_VALUE, 4}, {0, 0, 1, 0, Integer.MIN_VALUE},
        };
        for (int[] w : beyond) {
            String what = "39: copy(" + w[0] + ", " + w[1] + ", " + w[2] + ", " + w[3] + ", " + w[4] + ")";
            Due.is(what, Due.BEYOND, x.copy(w[0], w[1], w[2], w[3], w[4]));
        }
        Due.is("39: from a missing one", Due.MISSING, x.copy(3, -1, 0, 0, 0));
        Due.is("39: to a missing one", Due.MISSING, x.copy(0, -1, 3, 0, 0));
        Due.is("39: unlike bits ahead of places", Due.KIND, x.copy(0, -1, 2, 0, 0));
        dueNumbers("39: nothing changed", x, 1, 0, 0, 0, 0);
    }

    private static void lays() {
        MaskBows x = new MaskBows();
        Due.is("40: sheet 4", Due.BEYOND, x.lays(4));
        Due.is("40: sheet -1", Due.BEYOND, x.lays(-1));
        Due.is("40: missing", Due.MISSING, x.lays(0));
        x.bow(0, 0, 1, 10);
        x.bow(1, 0, 1, 10);
        x.bow(2, 0, 1, 10);
        Due.is("40: one night", 1, x.nights());
        x.sheet(0, 64, 5);
        x.write(0, 0, 11);
        x.write(0, 1, 5);
        x.write(0, 2, -1);
        Due.is("40: one came", 1, x.lays(0));
        Due.is("40: tenths of bow 0", 10, x.bowOf(0, 3));
        Due.is("40: tenths of bow 1", 5, x.bowOf(1, 3));
        Due.is("40: tenths of bow 2", 10, x.bowOf(2, 3));
        Due.is("40: two nights", 2, x.nights());
        x.write(0, 0, 1L << 32);
        Due.is("40: a long beyond is none", 1, x.lays(0));
        x.write(0, 0, 10);
        x.write(0, 1, 10);
        x.write(0, 2, 0);
        Due.is("40: both ends may be", 3, x.lays(0));
        Due.is("40: tenths of bow 1", 10, x.bowOf(1, 3));
        Due.is("40: tenths of bow 2", 0, x.bowOf(2, 3));
        x.sheet(0, 16, 0);
        Due.is("40: an empty sheet", 0, x.lays(0));
        inOrder();
    }

    private static void inOrder() {
        MaskBows x = new MaskBows();
        for (int i = 0; i < 8; i++) {
            x.bow(i, 0, 1, i < 2 ? 10 : 5);
        }
        x.sheet(0, 8, 8);
        int[] numbers = {9, 10, 10, 1, 1, 1, 1, 1};
        for (int i = 0; i < 8; i++) {
            x.write(0, i, numbers[i]);
        }
        Due.is("40: the first would be a 7th then", 7, x.lays(0));
        Due.is("40: it stayed", 10, x.bowOf(0, 3));
        Due.is("40: five are doubted", 5, x.count(2));
        Due.is("40: now it may come", 8, x.lays(0));
        Due.is("40: tenths of bow 0", 9, x.bowOf(0, 3));
        Due.is("40: six are doubted", 6, x.count(2));
    }

    private static void ledger() {
        MaskBows x = new MaskBows();
        x.bow(5, 0, 1, 10);
        x.bow(6, 1, 2, 6);
        Due.is("41: sheet 4", Due.BEYOND, x.ledger(4, 0));
        Due.is("41: sheet -1", Due.BEYOND, x.ledger(-1, 0));
        Due.is("41: missing ahead of the hour", Due.MISSING, x.ledger(0, 100));
        x.sheet(0, 8, 3);
        x.sheet(1, 16, 6);
        x.sheet(2, 64, 0);
        Due.is("41: hour 100", Due.BEYOND, x.ledger(0, 100));
        Due.is("41: hour -1", Due.BEYOND, x.ledger(0, -1));
        Due.is("41: as far as it has numbers", 3, x.ledger(0, 5));
        dueNumbers("41: hour 5", x, 0, 1, 0, 2);
        x.write(1, 4, 9);
        Due.is("41: as far as there are masks", 4, x.ledger(1, 99));
        dueNumbers("41: hour 99", x, 1, 1, 2, 0, 3, 9, 0);
        Due.is("41: an empty one", 0, x.ledger(2, 0));
        x.says(0, 0, 1, true);
        x.let(1, true);
        Due.is("41: the hour ahead of NONE", Due.BEYOND, x.ledger(0, 100));
        x.write(0, 0, 9);
        Due.is("41: none holds", Due.NONE, x.ledger(0, 0));
        dueNumbers("41: nothing changed", x, 0, 9, 0, 0);
    }

    private static void read() {
        MaskBows x = new MaskBows();
        x.bow(5, 0, 1, 3);
        x.bow(6, 2, 3, 6);
        Due.is("42: sheet 4", Due.BEYOND, x.read(4, 0));
        Due.is("42: sheet -1", Due.BEYOND, x.read(-1, 0));
        Due.is("42: missing ahead of the hour", Due.MISSING, x.read(0, 100));
        x.sheet(0, 8, 2);
        x.sheet(1, 64, 6);
        x.sheet(2, 16, 0);
        Due.is("42: hour 100", Due.BEYOND, x.read(0, 100));
        Due.is("42: hour -1", Due.BEYOND, x.read(0, -1));
        Due.is("42: two zeros are never so", 0, x.read(0, 9));
        x.write(0, 0, 1);
        Due.is("42: 1 and 0", 30, x.read(0, 9));
        Due.is("42: 1 and 0 ahead of the bow", 0, x.read(0, 4));
        x.ledger(1, 9);
        x.write(1, 5, 77);
        Due.is("42: as many as both have", 70 * 60 / 100, x.read(1, 9));
        x.write(1, 0, 1L << 32);
        Due.is("42: all bits count", 0, x.read(1, 9));
        Due.is("42: an empty one is always so", 100, x.read(2, 9));
        x.says(0, 0, 1, true);
        x.let(1, true);
        Due.is("42: none holds", 0, x.read(2, 9));
    }
}
