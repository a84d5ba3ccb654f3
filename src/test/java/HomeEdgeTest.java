/** Edges of promises 30 to 33, each by the sentence of the document that names it. */
public final class HomeEdgeTest {
    private static final int LEAST = Integer.MIN_VALUE;
    private static final int MOST = Integer.MAX_VALUE;

    public static void main(String[] args) {
        home();
        homeBow();
        atHome();
        since();
        Due.end("HomeEdgeTest");
    }

    /** A ring of all eight, turned at hour 50: each person k wears mask k + 1, person 7 mask 0. */
    private static void ringOfEight(MaskBows x) {
        x.people(8);
        for (int i = 6; i >= 0; i--) {
            x.bow(50, i, i + 1, 10);
        }
    }

    /** The fewest BOWS more (behind all) that bring each MASK home in LIKELIEST. NONE: none HOLDS. */
    private static void home() {
        Edge.idle("30: none is away", 0, Given::nothing, x -> x.home());
        Edge.idle("30: the most, of a ring of eight", 7, HomeEdgeTest::ringOfEight, x -> x.home());
        Edge.idle("30: a bow of hour 99 is behind all", 1, Given.bowsAt(99), x -> x.home());
        Edge.idle("30: home again at hour 99", 0, Given.bowsAt(0, 99), x -> x.home());
        Edge.idle("30: by 4 tenths none is away", 0, x -> x.bow(0, 0, 1, 4), x -> x.home());
        Edge.idle("30: by 5 tenths neither, the lesser set", 0, x -> x.bow(0, 0, 1, 5), x -> x.home());
        Edge.idle("30: by 6 tenths two are", 1, x -> x.bow(0, 0, 1, 6), x -> x.home());
        Edge.refused("30: none holds", Due.NONE, Given::noneHolds, x -> x.home());
    }

    /** The i-th: always the least MASK that isn't home bows to that which its own PERSON wears. BEYOND: i below 0. NONE. */
    private static void homeBow() {
        for (int i = 0; i < 7; i++) {
            int at = i;
            // Mask i bows to mask i + 1, which person i wears.
            Edge.idle("31: bow " + i + " of a ring of eight", 11 * i + 1, HomeEdgeTest::ringOfEight, x -> x.homeBow(at));
        }
        for (int i : new int[] {7, 8, MOST}) {
            Edge.refused("31: not so many as " + i, Due.NONE, HomeEdgeTest::ringOfEight, x -> x.homeBow(i));
        }
        for (int i : new int[] {-1, LEAST}) {
            Edge.refused("31: i " + i, Due.BEYOND, HomeEdgeTest::ringOfEight, x -> x.homeBow(i));
            Edge.refused("31: BEYOND ahead of NONE, i " + i, Due.BEYOND, Given::noneHolds, x -> x.homeBow(i));
        }
        Edge.refused("31: none is away", Due.NONE, Given::nothing, x -> x.homeBow(0));
        Edge.refused("31: none holds", Due.NONE, Given::noneHolds, x -> x.homeBow(0));
        Edge.idle("31: the least and the greatest mask", 7, x -> {
            x.people(8);
            x.bow(0, 7, 0, 10);
        }, x -> x.homeBow(0));
        Edge.idle("31: the two greatest", 67, x -> {
            x.people(8);
            x.bow(0, 7, 6, 10);
        }, x -> x.homeBow(0));
        // Mask 0: 2, mask 1: 0, mask 2: 1. Person 0 wears mask 1, not mask 2.
        Edge.Told three = x -> {
            x.bow(0, 0, 1, 10);
            x.bow(1, 0, 2, 10);
        };
        Edge.idle("31: that which its own person wears", 1, three, x -> x.homeBow(0));
        Edge.idle("31: and then the other two", 12, three, x -> x.homeBow(1));
    }

    /** Which PERSONS are at home at an HOUR in LIKELIEST, as a set. BEYOND. NONE: none HOLDS. */
    private static void atHome() {
        for (Edge.Told told : new Edge.Told[] {Given::much, Given::noneHolds}) {
            for (int wrong : new int[] {-1, 100, LEAST, MOST}) {
                Edge.refused("32: hour " + wrong, Due.BEYOND, told, x -> x.atHome(wrong));
            }
        }
        Edge.refused("32: none holds", Due.NONE, Given::noneHolds, x -> x.atHome(99));
        Edge.idle("32: all eight at hour 49", 255, HomeEdgeTest::ringOfEight, x -> x.atHome(49));
        Edge.idle("32: none at hour 50", 0, HomeEdgeTest::ringOfEight, x -> x.atHome(50));
        Edge.idle("32: two of two", 3, x -> x.people(2), x -> x.atHome(0));
        Edge.idle("32: hour 0", 12, Given.bowsAt(0), x -> x.atHome(0));
        Edge.idle("32: hour 98", 15, Given.bowsAt(99), x -> x.atHome(98));
        Edge.idle("32: hour 99", 12, Given.bowsAt(99), x -> x.atHome(99));
    }

    /** The least HOUR from which on, up to 99, a PERSON wears its own MASK in LIKELIEST. BEYOND. NONE. */
    private static void since() {
        for (Edge.Told told : new Edge.Told[] {Given::much, Given::noneHolds}) {
            for (int wrong : new int[] {-1, 5, LEAST, MOST}) {
                Edge.refused("33: person " + wrong, Due.BEYOND, told, x -> x.since(wrong));
            }
        }
        Edge.refused("33: none holds", Due.NONE, Given::noneHolds, x -> x.since(4));
        Edge.idle("33: never away", 0, Given::nothing, x -> x.since(3));
        Edge.idle("33: away and home within hour 0", 0, Given.bowsAt(0, 0), x -> x.since(0));
        Edge.idle("33: home at hour 1", 1, Given.bowsAt(0, 1), x -> x.since(0));
        Edge.idle("33: home at hour 99", 99, Given.bowsAt(0, 99), x -> x.since(1));
        Edge.idle("33: home twice: the later", 70, Given.bowsAt(10, 20, 60, 70), x -> x.since(1));
        Edge.refused("33: away from hour 0", Due.NONE, Given.bowsAt(0), x -> x.since(0));
        Edge.refused("33: away from hour 99", Due.NONE, Given.bowsAt(99), x -> x.since(0));
        Edge.idle("33: the last of eight", 0, x -> x.people(8), x -> x.since(7));
    }
}
