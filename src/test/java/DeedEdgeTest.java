/** Edges of promises 18 to 26, each by the sentence of the document that names it. */
public final class DeedEdgeTest {
    private static final int LEAST = Integer.MIN_VALUE;
    private static final int MOST = Integer.MAX_VALUE;

    public static void main(String[] args) {
        deedBeyond();
        deedFull();
        deedOf();
        pays();
        binds();
        turn();
        as();
        who();
        same();
        owes();
        owesTo();
        bound();
        Due.end("DeedEdgeTest");
    }

    private static void refusedDeed(String what, int kind, int hour, int mask, int other, int coins) {
        for (Edge.Told told : new Edge.Told[] {Given::nothing, Given::twelveDeeds}) {
            Edge.refused("18: " + what, Due.BEYOND, told, x -> x.deed(kind, hour, mask, other, coins));
        }
    }

    private static void takenDeed(String what, int kind, int hour, int mask, int other, int coins) {
        Edge.taken("18: " + what, 3, Given::much, x -> x.deed(kind, hour, mask, other, coins));
        MaskBows x = Edge.made(Given::much);
        x.deed(kind, hour, mask, other, coins);
        int[] parts = {kind, hour, mask, other, coins};
        for (int part = 0; part < 5; part++) {
            Due.is("18: part " + part + " of " + what, parts[part], x.deedOf(3, part));
        }
        Due.is("18: how many with " + what, 4, x.count(3));
    }

    /** DEEDS: KINDS 0 to 5, an HOUR, a MASK, another MASK, COINS (0 to 999). BEYOND: kind, hour, masks (unlike), coins. */
    private static void deedBeyond() {
        takenDeed("the least of all", 0, 0, 0, 1, 0);
        takenDeed("the greatest of all", 5, 99, 4, 3, 999);
        for (int wrong : new int[] {-1, LEAST, MOST}) {
            refusedDeed("kind " + wrong, wrong, 0, 0, 1, 0);
            refusedDeed("hour " + wrong, 0, wrong, 0, 1, 0);
            refusedDeed("mask " + wrong, 0, 0, wrong, 1, 0);
            refusedDeed("other " + wrong, 0, 0, 0, wrong, 0);
            refusedDeed("coins " + wrong, 0, 0, 0, 1, wrong);
        }
        refusedDeed("kind 6", 6, 0, 0, 1, 0);
        refusedDeed("hour 100", 0, 100, 0, 1, 0);
        refusedDeed("mask N", 0, 0, 4, 1, 0);
        refusedDeed("other N", 0, 0, 0, 4, 0);
        refusedDeed("like masks 0", 0, 0, 0, 0, 0);
        refusedDeed("like masks 3", 0, 0, 3, 3, 0);
        refusedDeed("coins 1000", 0, 0, 0, 1, 1000);
    }

    /** 12 DEEDS at most. FULL. */
    private static void deedFull() {
        Edge.taken("18: a 12th", 11, x -> {
            for (int i = 0; i < 11; i++) {
                x.deed(0, 0, 0, 1, 0);
            }
        }, x -> x.deed(5, 99, 3, 2, 999));
        Edge.refused("18: a 13th", Due.FULL, Given::twelveDeeds, x -> x.deed(0, 0, 0, 1, 0));
        Edge.refused("18: a 13th, the greatest", Due.FULL, Given::twelveDeeds, x -> x.deed(5, 99, 3, 2, 999));
    }

    /** Of a DEED: what 0 KIND to 6 BINDS. BEYOND. */
    private static void deedOf() {
        int[] last = {5, 11, 3, 0, 91, 182, 0};
        for (int what = 0; what < 7; what++) {
            int w = what;
            Edge.idle("19: deedOf(11, " + w + ")", last[w], Given::twelveDeeds, x -> x.deedOf(11, w));
            for (int deed : new int[] {-1, 12, LEAST, MOST}) {
                Edge.refused("19: deedOf(" + deed + ", " + w + ")", Due.BEYOND, Given::twelveDeeds, x -> x.deedOf(deed, w));
            }
            Edge.refused("19: the deed behind the last, " + w, Due.BEYOND, Given::much, x -> x.deedOf(3, w));
        }
        for (int what : new int[] {-1, 7, LEAST, MOST}) {
            Edge.refused("19: what " + what, Due.BEYOND, Given::twelveDeeds, x -> x.deedOf(0, what));
        }
    }

    /** PAYS. DEED: 0. DEBT: COINS. DUEL: a tenth less. KISS: 1. VOW: as KISS, and half. THEFT: twice. Quotients are cut. */
    private static void pays() {
        int[] coins = {0, 1, 2, 9, 10, 19, 20, 998, 999};
        int[][] due = {
            {0, 0, 0, 0, 0, 0, 0, 0, 0},
            {0, 1, 2, 9, 10, 19, 20, 998, 999},
            {0, 0, 0, 0, -1, -1, -2, -99, -99},
            {1, 1, 1, 1, 1, 1, 1, 1, 1},
            {1, 1, 2, 5, 6, 10, 11, 500, 500},
            {0, 2, 4, 18, 20, 38, 40, 1996, 1998},
        };
        for (int kind = 0; kind < 6; kind++) {
            for (int i = 0; i < coins.length; i++) {
                int k = kind;
                int v = coins[i];
                Edge.idle("19: pays of kind " + k + ", " + v, due[k][i], x -> x.deed(k, 0, 0, 1, v), x -> x.deedOf(0, 5));
                Edge.idle("19: turned to it", due[k][i], x -> {
                    x.deed(5 - k, 0, 0, 1, v);
                    x.turn(0, k);
                }, x -> x.deedOf(0, 5));
            }
        }
    }

    /** BINDS: DEED: no. VOW: yes. (Others as the KIND above.) */
    private static void binds() {
        for (int kind = 0; kind < 6; kind++) {
            int k = kind;
            Edge.idle("19: binds of kind " + k, k == 4 ? 1 : 0, x -> x.deed(k, 0, 0, 1, 5), x -> x.deedOf(0, 6));
        }
    }

    /** A DEED becomes one of another KIND: what it was. BEYOND. */
    private static void turn() {
        for (int kind = 0; kind < 6; kind++) {
            int k = kind;
            Edge.taken("20: turn(11, " + k + ")", 5, Given::twelveDeeds, x -> x.turn(11, k));
            Edge.taken("20: it became " + k, k, x -> {
                Given.twelveDeeds(x);
                x.turn(11, k);
            }, x -> x.deedOf(11, 0));
            Edge.idle("20: to the kind it has, " + k, k, Given::twelveDeeds, x -> x.turn(k, k));
        }
        for (int wrong : new int[] {-1, 6, LEAST, MOST}) {
            Edge.refused("20: kind " + wrong, Due.BEYOND, Given::twelveDeeds, x -> x.turn(0, wrong));
        }
        for (int wrong : new int[] {-1, 12, LEAST, MOST}) {
            Edge.refused("20: deed " + wrong, Due.BEYOND, Given::twelveDeeds, x -> x.turn(wrong, 0));
        }
        Edge.refused("20: no deeds", Due.BEYOND, Given::nothing, x -> x.turn(0, 0));
    }

    /** COINS. BEYOND: no such DEED, kind. KIND: it isn't of that kind, nor of one under it. */
    private static void as() {
        // Deed k of the twelve is of kind k, with 80 + k coins.
        int[][] above = {{0}, {0, 1}, {0, 2}, {0, 3}, {0, 3, 4}, {0, 1, 5}};
        for (int kind = 0; kind < 6; kind++) {
            for (int as = 0; as < 6; as++) {
                int k = kind;
                int a = as;
                if (java.util.Arrays.stream(above[kind]).anyMatch(v -> v == a)) {
                    Edge.idle("21: as(" + k + ", " + a + ")", 80 + k, Given::twelveDeeds, x -> x.as(k, a));
                } else {
                    Edge.refused("21: as(" + k + ", " + a + ")", Due.KIND, Given::twelveDeeds, x -> x.as(k, a));
                }
            }
        }
        Edge.idle("21: the last deed", 91, Given::twelveDeeds, x -> x.as(11, 5));
        for (int wrong : new int[] {-1, 6, LEAST, MOST}) {
            Edge.refused("21: kind " + wrong + " of a deed that is no theft", Due.BEYOND, Given::twelveDeeds, x -> x.as(0, wrong));
        }
        for (int wrong : new int[] {-1, 12, LEAST, MOST}) {
            Edge.refused("21: deed " + wrong, Due.BEYOND, Given::twelveDeeds, x -> x.as(wrong, 5));
        }
        Edge.idle("21: turned, it is of that kind", 80, x -> {
            Given.twelveDeeds(x);
            x.turn(0, 5);
        }, x -> x.as(0, 1));
    }

    /** DOER (what 0), or the one it was done to (1), SURE: who wore these MASKS then. BEYOND. NONE. */
    private static void who() {
        for (Edge.Told told : new Edge.Told[] {Given::much, Given::noneHolds}) {
            for (int wrong : new int[] {-1, 3, LEAST, MOST}) {
                Edge.refused("22: deed " + wrong, Due.BEYOND, told, x -> x.who(wrong, 0));
            }
            for (int wrong : new int[] {-1, 2, LEAST, MOST}) {
                Edge.refused("22: what " + wrong, Due.BEYOND, told, x -> x.who(0, wrong));
            }
        }
        Edge.refused("22: the doer isn't sure", Due.NONE, Given::much, x -> x.who(0, 0));
        Edge.idle("22: the other one is", 1, Given::much, x -> x.who(0, 1));
        Edge.refused("22: none holds", Due.NONE, Given::noneHolds, x -> x.who(0, 1));
        Edge.Told atTheBow = x -> {
            x.bow(5, 0, 1, 10);
            x.deed(0, 4, 0, 1, 0);
            x.deed(0, 5, 0, 1, 0);
        };
        Edge.idle("22: an hour ahead of the bow", 0, atTheBow, x -> x.who(0, 0));
        Edge.idle("22: an hour ahead, the other", 1, atTheBow, x -> x.who(0, 1));
        Edge.idle("22: at the hour of the bow", 1, atTheBow, x -> x.who(1, 0));
        Edge.idle("22: at the hour, the other", 0, atTheBow, x -> x.who(1, 1));
        Edge.idle("22: the 12th deed", 3, Given::twelveDeeds, x -> x.who(11, 0));
    }

    /** ODDS that one and the same PERSON did two DEEDS. BEYOND (also one and the same DEED). */
    private static void same() {
        for (Edge.Told told : new Edge.Told[] {Given::much, Given::noneHolds}) {
            for (int wrong : new int[] {-1, 3, LEAST, MOST}) {
                Edge.refused("23: one " + wrong, Due.BEYOND, told, x -> x.same(wrong, 0));
                Edge.refused("23: other " + wrong, Due.BEYOND, told, x -> x.same(0, wrong));
                Edge.refused("23: both " + wrong, Due.BEYOND, told, x -> x.same(wrong, wrong));
            }
            Edge.refused("23: deed 0 twice", Due.BEYOND, told, x -> x.same(0, 0));
            Edge.refused("23: deed 2 twice", Due.BEYOND, told, x -> x.same(2, 2));
        }
        // Deeds 3, 7 and 11 are of mask 3, whose wearer is sure.
        Edge.idle("23: the last two of mask 3", 10, Given::twelveDeeds, x -> x.same(7, 11));
        Edge.idle("23: either way", 10, Given::twelveDeeds, x -> x.same(11, 7));
        // Deed 0 is of mask 0 ahead of the bow, deed 8 of mask 0 behind it.
        Edge.idle("23: only if it wasn't made", 7, Given::twelveDeeds, x -> x.same(0, 8));
        Edge.idle("23: none holds", 0, Given::noneHolds, x -> x.same(0, 1));
    }

    /** What a PERSON owes by all DEEDS (less what others owe it), times WEIGHT, of all NIGHTS that HOLD together. BEYOND. */
    private static void owes() {
        for (Edge.Told told : new Edge.Told[] {Given::much, Given::noneHolds}) {
            for (int wrong : new int[] {-1, 5, LEAST, MOST}) {
                Edge.refused("24: person " + wrong, Due.BEYOND, told, x -> x.owes(wrong));
            }
        }
        Edge.idle("24: no deeds", 0, Given::nothing, x -> x.owes(3));
        Edge.idle("24: none holds", 0, Given::noneHolds, x -> x.owes(4));
        Edge.Told most = x -> {
            for (int i = 0; i < 6; i++) {
                x.bow(0, 0, 1, 5);
            }
            for (int i = 0; i < 12; i++) {
                x.deed(5, 0, 2, 3, 999);
            }
        };
        Edge.idle("24: the most", 23976000000L, most, x -> x.owes(2));
        Edge.idle("24: the least, far below the findings", -23976000000L, most, x -> x.owes(3));
        Edge.idle("24: like BEYOND in its lowest bits, but no finding", -999000000L, x -> {
            for (int i = 0; i < 6; i++) {
                x.bow(0, 0, 1, 5);
            }
            x.deed(1, 0, 2, 3, 999);
        }, x -> x.owes(3));
    }

    /** What one PERSON owes another one by all DEEDS in LIKELIEST. BEYOND (also one and the same). NONE: none HOLDS. */
    private static void owesTo() {
        pairs("25: owesTo", (x, one, other) -> x.owesTo(one, other));
        Edge.refused("25: none holds", Due.NONE, Given::noneHolds, x -> x.owesTo(0, 4));
        Edge.idle("25: nothing", 0, Given::nothing, x -> x.owesTo(0, 3));
        Edge.Told most = x -> {
            for (int i = 0; i < 12; i++) {
                x.deed(5, 0, 2, 3, 999);
            }
        };
        Edge.idle("25: the most", 23976, most, x -> x.owesTo(2, 3));
        Edge.idle("25: the least", -23976, most, x -> x.owesTo(3, 2));
        Edge.idle("25: of another one", 0, most, x -> x.owesTo(2, 0));
        Edge.idle("25: both ways, one from the other", 90, x -> {
            x.deed(1, 0, 0, 1, 100);
            x.deed(1, 0, 1, 0, 10);
        }, x -> x.owesTo(0, 1));
    }

    /** ODDS that two PERSONS are bound (by some DEED, either way). BEYOND (also one and the same). */
    private static void bound() {
        pairs("26: bound", (x, one, other) -> x.bound(one, other));
        Edge.idle("26: none holds", 0, Given::noneHolds, x -> x.bound(2, 4));
        Edge.idle("26: the last person", 700, Given::much, x -> x.bound(2, 3));
        Edge.idle("26: either way", 700, Given::much, x -> x.bound(3, 2));
        Edge.idle("26: the rest of it", 300, Given::much, x -> x.bound(4, 2));
        Edge.idle("26: the 12th deed binds", 1, x -> {
            for (int i = 0; i < 11; i++) {
                x.deed(3, 0, 0, 1, 0);
            }
            x.deed(4, 0, 3, 2, 0);
        }, x -> x.bound(2, 3));
        Edge.idle("26: a kiss binds none", 0, x -> x.deed(3, 0, 0, 1, 0), x -> x.bound(0, 1));
        Edge.idle("26: bound by two vows, once", 10, x -> {
            x.bow(0, 2, 3, 5);
            x.deed(4, 0, 0, 1, 0);
            x.deed(4, 9, 1, 0, 0);
        }, x -> x.bound(0, 1));
    }

    private interface OfTwo {
        long answer(MaskBows x, int one, int other);
    }

    /** BEYOND for wrong persons, and ahead of NONE. */
    private static void pairs(String what, OfTwo call) {
        for (Edge.Told told : new Edge.Told[] {Given::much, Given::noneHolds}) {
            for (int wrong : new int[] {-1, 5, LEAST, MOST}) {
                Edge.refused(what + ", one " + wrong, Due.BEYOND, told, x -> call.answer(x, wrong, 0));
                Edge.refused(what + ", other " + wrong, Due.BEYOND, told, x -> call.answer(x, 0, wrong));
                Edge.refused(what + ", both " + wrong, Due.BEYOND, told, x -> call.answer(x, wrong, wrong));
            }
            Edge.refused(what + ", 0 twice", Due.BEYOND, told, x -> call.answer(x, 0, 0));
            Edge.refused(what + ", N less 1 twice", Due.BEYOND, told, x -> call.answer(x, 4, 4));
        }
    }
}
