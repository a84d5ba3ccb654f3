/** Promises 18 to 26: deeds. */
public final class DeedTest {
    public static void main(String[] args) {
        deed();
        deedOf();
        turn();
        as();
        who();
        same();
        owes();
        owesTo();
        bound();
        Due.end("DeedTest");
    }

    private static void deed() {
        MaskBows x = new MaskBows();
        int[][] wrong = {
            {-1, 0, 0, 1, 0}, {6, 0, 0, 1, 0}, {0, -1, 0, 1, 0}, {0, 100, 0, 1, 0}, {0, 0, -1, 1, 0}, {0, 0, 4, 1, 0},
            {0, 0, 0, -1, 0}, {0, 0, 0, 4, 0}, {0, 0, 3, 3, 0}, {0, 0, 0, 1, -1}, {0, 0, 0, 1, 1000},
        };
        for (int[] w : wrong) {
            Due.is("18: a wrong deed", Due.BEYOND, x.deed(w[0], w[1], w[2], w[3], w[4]));
        }
        for (int i = 0; i < 12; i++) {
            Due.is("18: deed " + i, i, x.deed(i % 6, 99, 3, 0, 999));
        }
        Due.is("18: BEYOND ahead of FULL", Due.BEYOND, x.deed(0, 0, 1, 1, 0));
        Due.is("18: a 13th", Due.FULL, x.deed(0, 0, 0, 1, 0));
        Due.is("18: how many", 12, x.count(3));
    }

    private static void deedOf() {
        MaskBows x = new MaskBows();
        Due.is("19: none yet", Due.BEYOND, x.deedOf(0, 0));
        int[] pays = {0, 59, -5, 1, 30, 118};
        for (int kind = 0; kind < 6; kind++) {
            x.deed(kind, 20 + kind, 3, 1, 59);
            int[] parts = {kind, 20 + kind, 3, 1, 59, pays[kind], kind == 4 ? 1 : 0};
            for (int what = 0; what < 7; what++) {
                Due.is("19: of kind " + kind + ", " + what, parts[what], x.deedOf(kind, what));
            }
        }
        Due.is("19: what 7", Due.BEYOND, x.deedOf(0, 7));
        Due.is("19: what -1", Due.BEYOND, x.deedOf(0, -1));
        Due.is("19: deed 6", Due.BEYOND, x.deedOf(6, 0));
        Due.is("19: pays of deed 6", Due.BEYOND, x.deedOf(6, 5));
        Due.is("19: deed -1", Due.BEYOND, x.deedOf(-1, 6));
        x.deed(2, 0, 0, 1, 9);
        Due.is("19: a tenth is cut", 0, x.deedOf(6, 5));
        x.deed(4, 0, 0, 1, 1);
        Due.is("19: a half is cut", 1, x.deedOf(7, 5));
    }

    private static void turn() {
        MaskBows x = new MaskBows();
        Due.is("20: none yet", Due.BEYOND, x.turn(0, 0));
        x.deed(3, 0, 0, 1, 100);
        Due.is("20: kind 6", Due.BEYOND, x.turn(0, 6));
        Due.is("20: kind -1", Due.BEYOND, x.turn(0, -1));
        Due.is("20: deed 1", Due.BEYOND, x.turn(1, 0));
        Due.is("20: deed -1", Due.BEYOND, x.turn(-1, 0));
        Due.is("20: a kiss to a vow", 3, x.turn(0, 4));
        Due.is("20: it binds", 1, x.deedOf(0, 6));
        Due.is("20: it pays", 51, x.deedOf(0, 5));
        Due.is("20: to the same", 4, x.turn(0, 4));
        Due.is("20: a vow to a theft", 4, x.turn(0, 5));
        Due.is("20: it pays", 200, x.deedOf(0, 5));
        Due.is("20: it binds no more", 0, x.deedOf(0, 6));
        Due.is("20: coins stay", 100, x.deedOf(0, 4));
    }

    private static void as() {
        MaskBows x = new MaskBows();
        boolean[][] under = {
            {true, false, false, false, false, false},
            {true, true, false, false, false, false},
            {true, false, true, false, false, false},
            {true, false, false, true, false, false},
            {true, false, false, true, true, false},
            {true, true, false, false, false, true},
        };
        for (int kind = 0; kind < 6; kind++) {
            x.deed(kind, 0, 0, 1, 70 + kind);
            for (int as = 0; as < 6; as++) {
                Due.is("21: kind " + kind + " as " + as, under[kind][as] ? 70 + kind : Due.KIND, x.as(kind, as));
            }
        }
        Due.is("21: kind 6", Due.BEYOND, x.as(0, 6));
        Due.is("21: kind -1", Due.BEYOND, x.as(0, -1));
        Due.is("21: deed 6", Due.BEYOND, x.as(6, 0));
        Due.is("21: deed -1", Due.BEYOND, x.as(-1, 5));
        Due.is("21: KIND was counted", 23, x.status(2));
    }

    private static void who() {
        MaskBows x = new MaskBows();
        x.bow(3, 0, 1, 10);
        x.bow(5, 1, 2, 5);
        x.deed(0, 2, 0, 1, 0);
        x.deed(0, 3, 0, 1, 0);
        x.deed(0, 5, 0, 1, 0);
        Due.is("22: ahead of the bow, doer", 0, x.who(0, 0));
        Due.is("22: ahead of the bow, other", 1, x.who(0, 1));
        Due.is("22: at the bow's hour, doer", 1, x.who(1, 0));
        Due.is("22: at the bow's hour, other", 0, x.who(1, 1));
        Due.is("22: sure as to the doer", 1, x.who(2, 0));
        Due.is("22: not as to the other", Due.NONE, x.who(2, 1));
        Due.is("22: what 2", Due.BEYOND, x.who(0, 2));
        Due.is("22: what -1", Due.BEYOND, x.who(0, -1));
        Due.is("22: deed 3", Due.BEYOND, x.who(3, 0));
        Due.is("22: deed -1", Due.BEYOND, x.who(-1, 0));
        x.says(0, 0, 1, true);
        x.let(1, true);
        Due.is("22: none holds", Due.NONE, x.who(0, 0));
    }

    private static void same() {
        MaskBows x = new MaskBows();
        x.bow(5, 0, 1, 3);
        x.deed(0, 0, 0, 2, 0);
        x.deed(0, 9, 0, 2, 0);
        x.deed(0, 9, 1, 2, 0);
        Due.is("23: no bow, one doer", 7, x.same(0, 1));
        Due.is("23: a bow, one doer", 3, x.same(0, 2));
        Due.is("23: two masks at one hour", 0, x.same(1, 2));
        Due.is("23: either order", 3, x.same(2, 0));
        Due.is("23: one and the same", Due.BEYOND, x.same(1, 1));
        Due.is("23: deed 3", Due.BEYOND, x.same(0, 3));
        Due.is("23: deed -1", Due.BEYOND, x.same(-1, 0));
    }

    private static void owes() {
        MaskBows x = new MaskBows();
        x.bow(5, 0, 1, 3);
        x.deed(1, 9, 0, 2, 50);
        x.deed(2, 0, 2, 3, 100);
        x.deed(4, 9, 3, 1, 8);
        // Unswapped (7): 0 owes 2 fifty. Swapped (3): 1 does. 3 owes 2 ten. 3 owes mask 1's wearer five.
        Due.is("24: person 0", 7 * 50 - 3 * 5, x.owes(0));
        Due.is("24: person 1", 3 * 50 - 7 * 5, x.owes(1));
        Due.is("24: person 2", -10 * 50 - 10 * 10, x.owes(2));
        Due.is("24: person 3", 10 * 10 + 10 * 5, x.owes(3));
        Due.is("24: person 4", Due.BEYOND, x.owes(4));
        Due.is("24: person -1", Due.BEYOND, x.owes(-1));
        x.says(0, 0, 1, true);
        x.let(1, true);
        Due.is("24: none holds", 0, x.owes(0));
        farBelow();
    }

    private static void farBelow() {
        MaskBows x = new MaskBows();
        for (int i = 0; i < 6; i++) {
            x.bow(0, 0, 1, 5);
        }
        for (int i = 0; i < 12; i++) {
            x.deed(5, 0, 2, 3, 999);
        }
        Due.is("24: a long", 12L * 1998 * 1000000, x.owes(2));
        Due.is("24: below the findings, yet none", -12L * 1998 * 1000000, x.owes(3));
        Due.is("24: none was counted", 0, x.status(-1));
    }

    private static void owesTo() {
        MaskBows x = new MaskBows();
        x.bow(5, 0, 1, 3);
        x.deed(1, 9, 0, 2, 50);
        x.deed(2, 0, 2, 0, 100);
        x.deed(3, 0, 3, 1, 8);
        // A duel of 2 with 0: 0 owes 2 ten.
        Due.is("25: 0 owes 2", 60, x.owesTo(0, 2));
        Due.is("25: the other way", -60, x.owesTo(2, 0));
        Due.is("25: 3 owes 1", 1, x.owesTo(3, 1));
        Due.is("25: nothing", 0, x.owesTo(1, 2));
        x.doubt(0, 6);
        Due.is("25: in the likeliest night 1 owes 2", 50, x.owesTo(1, 2));
        Due.is("25: and 0 but the duel", 10, x.owesTo(0, 2));
        Due.is("25: one and the same", Due.BEYOND, x.owesTo(1, 1));
        Due.is("25: person 4", Due.BEYOND, x.owesTo(4, 0));
        Due.is("25: person -1", Due.BEYOND, x.owesTo(0, -1));
        x.says(0, 0, 1, true);
        x.let(1, true);
        Due.is("25: BEYOND ahead of NONE", Due.BEYOND, x.owesTo(1, 1));
        Due.is("25: none holds", Due.NONE, x.owesTo(0, 1));
    }

    private static void bound() {
        MaskBows x = new MaskBows();
        x.bow(5, 0, 1, 3);
        x.deed(4, 9, 0, 2, 0);
        x.deed(3, 9, 2, 3, 0);
        Due.is("26: 0 and 2", 7, x.bound(0, 2));
        Due.is("26: 2 and 0", 7, x.bound(2, 0));
        Due.is("26: 1 and 2", 3, x.bound(2, 1));
        Due.is("26: a kiss binds none", 0, x.bound(2, 3));
        x.deed(4, 9, 2, 0, 0);
        Due.is("26: two vows count once", 7, x.bound(0, 2));
        x.deed(4, 0, 2, 0, 0);
        Due.is("26: by some deed", 10, x.bound(0, 2));
        Due.is("26: one and the same", Due.BEYOND, x.bound(2, 2));
        Due.is("26: person 4", Due.BEYOND, x.bound(0, 4));
        Due.is("26: person -1", Due.BEYOND, x.bound(-1, 0));
        x.says(0, 0, 1, true);
        x.let(1, true);
        Due.is("26: none holds", 0, x.bound(0, 2));
    }
}
