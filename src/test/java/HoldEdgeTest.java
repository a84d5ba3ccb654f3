/** Edges of promises 9 to 17, each by the sentence of the document that names it. */
public final class HoldEdgeTest {
    private static final int LEAST = Integer.MIN_VALUE;
    private static final int MOST = Integer.MAX_VALUE;

    public static void main(String[] args) {
        weights();
        rule();
        sayings();
        likeliest();
        wore();
        may();
        odds();
        behind();
        met();
        lie();
        noneHolds();
        Due.end("HoldEdgeTest");
    }

    private interface OfMaskAndHour {
        long answer(MaskBows x, int mask, int hour);
    }

    private static Edge.Told sixOf(int tenths) {
        return x -> {
            for (int i = 0; i < 6; i++) {
                x.bow(i, 0, 1, tenths);
            }
        };
    }

    /** WEIGHT: TENTHS if made, else 10 less TENTHS, multiplied (1 without any). NIGHTS with a WEIGHT above 0 HOLD. */
    private static void weights() {
        Edge.idle("9: without bows", 1, Given::nothing, x -> x.nights());
        Edge.idle("10: 1 without any", 1, Given::nothing, x -> x.all());
        Edge.idle("10: 1 with seen ones alone", 1, Given.bowsAt(1, 2, 3), x -> x.all());
        Edge.idle("9: 0 tenths, one night", 1, sixOf(0), x -> x.nights());
        Edge.idle("10: 0 tenths have all weight not made", 1000000, sixOf(0), x -> x.all());
        Edge.idle("11: 0 tenths are not made", 0, sixOf(0), x -> x.likeliest());
        Edge.idle("9: 9 tenths", 64, sixOf(9), x -> x.nights());
        Edge.idle("10: 9 tenths", 1000000, sixOf(9), x -> x.all());
        Edge.idle("10: the least weight is 1", 1, x -> {
            sixOf(9).to(x);
            sayNot(x, 6);
        }, x -> x.all());
        Edge.idle("9: one night of it", 1, x -> {
            sixOf(9).to(x);
            sayNot(x, 6);
        }, x -> x.nights());
        Edge.idle("10: the greatest weight is 9 six times", 531441, x -> {
            sixOf(1).to(x);
            sayNot(x, 6);
        }, x -> x.all());
        Edge.idle("9: twenty bows, two doubted", 4, Given::twentyBows, x -> x.nights());
        Edge.idle("10: twenty bows, two doubted", 100, Given::twentyBows, x -> x.all());
    }

    /** Believes that mask 0 was its own person's at each hour: no bow of masks 0 and 1 was made. */
    private static void sayNot(MaskBows x, int hours) {
        for (int hour = 0; hour < hours; hour++) {
            x.says(hour, 0, 0, true);
        }
        x.let(1, true);
    }

    /** RULE (off at first): no two PERSONS bow to one another twice: a NIGHT in which two do is BARRED, if it is on. */
    private static void rule() {
        Edge.Told twice = x -> {
            x.bow(5, 0, 1, 10);
            x.bow(5, 1, 0, 10);
        };
        Edge.idle("9: off at first", 1, twice, x -> x.nights());
        Edge.idle("9: twice at one hour", 0, x -> {
            twice.to(x);
            x.let(0, true);
        }, x -> x.nights());
        Edge.idle("9: once is not twice", 1, x -> {
            x.bow(5, 0, 1, 10);
            x.let(0, true);
        }, x -> x.nights());
        Edge.idle("9: the second was not made", 1, x -> {
            twice.to(x);
            x.doubt(1, 0);
            x.let(0, true);
        }, x -> x.nights());
        Edge.idle("9: one person with two others", 1, x -> {
            x.bow(0, 0, 1, 10);
            x.bow(1, 1, 2, 10);
            x.bow(2, 2, 3, 10);
            x.let(0, true);
        }, x -> x.nights());
        Edge.idle("9: the two in other masks by then", 0, x -> {
            x.bow(0, 0, 1, 10);
            x.bow(1, 1, 2, 10);
            x.bow(2, 0, 2, 10);
            x.let(0, true);
        }, x -> x.nights());
        Edge.idle("9: the masks twice, others in them", 1, x -> {
            x.bow(0, 0, 1, 10);
            x.bow(1, 1, 2, 10);
            x.bow(2, 0, 1, 10);
            x.let(0, true);
        }, x -> x.nights());
        Edge.idle("9: twice, and other bows behind it", 0, x -> {
            twice.to(x);
            x.bow(6, 2, 3, 10);
            x.bow(7, 0, 2, 10);
            x.let(0, true);
        }, x -> x.nights());
        // Behind two bows 0 wears mask 2 and 1 mask 0; then 0 and 1 meet again, each with another one between.
        Edge.idle("9: twice, with another one between", 0, x -> {
            x.bow(0, 0, 1, 10);
            x.bow(1, 1, 2, 10);
            x.bow(2, 0, 3, 10);
            x.bow(3, 2, 3, 10);
            x.let(0, true);
        }, x -> x.nights());
        Edge.idle("9: persons 6 and 7 twice", 0, x -> {
            x.people(8);
            x.bow(0, 6, 7, 10);
            x.bow(99, 7, 6, 10);
            x.let(0, true);
        }, x -> x.nights());
    }

    /** A NIGHT in which one SAYING isn't so is BARRED, if they are BELIEVED (not at first). */
    private static void sayings() {
        Edge.Told untrue = x -> {
            Given.bowsAt(5).to(x);
            for (int i = 0; i < 9; i++) {
                x.says(5, 0, 1, true);
            }
            x.says(5, 0, 1, false);
        };
        Edge.idle("9: not believed at first", 1, untrue, x -> x.nights());
        Edge.idle("9: the 10th of them is not so", 0, x -> {
            untrue.to(x);
            x.let(1, true);
        }, x -> x.nights());
        Edge.idle("9: believed without any", 1, x -> x.let(1, true), x -> x.nights());
        Edge.idle("9: it was so at that hour, that hour's bows too", 1, x -> {
            Given.bowsAt(5).to(x);
            x.says(4, 0, 0, true);
            x.says(5, 0, 1, true);
            x.says(5, 0, 0, false);
            x.let(1, true);
        }, x -> x.nights());
        Edge.idle("9: what was not so an hour later bars", 0, x -> {
            Given.bowsAt(5).to(x);
            x.says(4, 0, 1, true);
            x.let(1, true);
        }, x -> x.nights());
    }

    /** Of several the least set of BOWS made (by bits). NONE: none HOLDS. */
    private static void likeliest() {
        Edge.idle("11: no bows", 0, Given::nothing, x -> x.likeliest());
        Edge.idle("11: bow 19 too", (1 << 20) - 1 - (1 << 2), Given::twentyBows, x -> x.likeliest());
        Edge.idle("11: all of one weight", 0, sixOf(5), x -> x.likeliest());
        Edge.idle("11: one of more", 4, x -> {
            sixOf(5).to(x);
            x.doubt(2, 6);
        }, x -> x.likeliest());
        // By the saying just one of bows 2 and 4 was made: of one weight, the lesser number is the lesser set.
        Edge.idle("11: the least set by numbers of bows, not by hours", 4, x -> {
            x.bow(0, 2, 3, 0);
            x.bow(1, 2, 3, 0);
            x.bow(9, 0, 1, 5);
            x.bow(1, 2, 3, 0);
            x.bow(8, 0, 1, 5);
            x.says(99, 0, 1, true);
            x.let(1, true);
        }, x -> x.likeliest());
        Edge.refused("11: none holds", Due.NONE, Given::noneHolds, x -> x.likeliest());
    }

    /** Masks (or persons) and hours just beyond; BEYOND is asked ahead of NONE. */
    private static void masksAndHours(String what, OfMaskAndHour call) {
        for (Edge.Told told : new Edge.Told[] {Given::much, Given::noneHolds}) {
            for (int wrong : new int[] {-1, 5, LEAST, MOST}) {
                Edge.refused(what + ", mask " + wrong, Due.BEYOND, told, x -> call.answer(x, wrong, 0));
            }
            for (int wrong : new int[] {-1, 100, LEAST, MOST}) {
                Edge.refused(what + ", hour " + wrong, Due.BEYOND, told, x -> call.answer(x, 0, wrong));
            }
        }
    }

    /** The bow of masks 3 and 4 at hour 3 was seen. */
    private static void muchSeen(MaskBows x) {
        Given.much(x);
        x.doubt(2, 10);
    }

    /** Who wore a MASK at an HOUR, SURE. BEYOND. NONE: it isn't SURE. SURE: so in all that HOLD (and one HOLDS). */
    private static void wore() {
        masksAndHours("12: wore", (x, mask, hour) -> x.wore(mask, hour));
        Edge.idle("12: mask 0, hour 0", 0, HoldEdgeTest::muchSeen, x -> x.wore(0, 0));
        Edge.idle("12: the last mask, hour 99", 3, HoldEdgeTest::muchSeen, x -> x.wore(4, 99));
        Edge.idle("12: the last mask, hour 2", 4, HoldEdgeTest::muchSeen, x -> x.wore(4, 2));
        Edge.refused("12: not sure", Due.NONE, Given::much, x -> x.wore(4, 99));
        Edge.idle("12: 0 tenths are sure", 0, x -> x.bow(0, 0, 1, 0), x -> x.wore(0, 0));
        Edge.refused("12: 1 tenth is not", Due.NONE, x -> x.bow(0, 0, 1, 1), x -> x.wore(0, 0));
        Edge.refused("12: 9 tenths are not", Due.NONE, x -> x.bow(0, 0, 1, 9), x -> x.wore(0, 0));
        Edge.refused("12: none holds", Due.NONE, Given::noneHolds, x -> x.wore(0, 0));
        Edge.idle("12: person 7", 7, x -> x.people(8), x -> x.wore(7, 99));
    }

    /** Who may have worn it, as a set of PERSONS (in some NIGHT that HOLDS). BEYOND. */
    private static void may() {
        masksAndHours("13: may", (x, mask, hour) -> x.may(mask, hour));
        Edge.idle("13: mask 0, hour 0", 1, Given::much, x -> x.may(0, 0));
        Edge.idle("13: the last mask, hour 99", 8 + 16, Given::much, x -> x.may(4, 99));
        Edge.idle("13: none holds", 0, Given::noneHolds, x -> x.may(0, 0));
        Edge.idle("13: person 7", 128, x -> x.people(8), x -> x.may(7, 0));
        Edge.idle("13: six bows let seven of eight wear it", 127, x -> {
            x.people(8);
            for (int i = 1; i <= 6; i++) {
                x.bow(i, 0, i, 5);
            }
        }, x -> x.may(0, 99));
    }

    /** ODDS that a PERSON wore a MASK at an HOUR. BEYOND. */
    private static void odds() {
        masksAndHours("14: odds", (x, mask, hour) -> x.odds(mask, 0, hour));
        Edge.idle("14: mask 0, hour 0", 1000, Given::much, x -> x.odds(0, 0, 0));
        Edge.idle("14: the last mask, the last person, hour 99", 300, Given::much, x -> x.odds(4, 4, 99));
        for (int wrong : new int[] {-1, 5, LEAST, MOST}) {
            Edge.refused("14: person " + wrong, Due.BEYOND, Given::much, x -> x.odds(0, wrong, 0));
            Edge.refused("14: person " + wrong + ", none holds", Due.BEYOND, Given::noneHolds, x -> x.odds(0, wrong, 0));
        }
        Edge.idle("14: what is sure has all", 1000000, sixOf(5), x -> x.odds(3, 3, 99));
        Edge.idle("14: what is not so has none", 0, sixOf(5), x -> x.odds(3, 2, 99));
        Edge.idle("14: none holds", 0, Given::noneHolds, x -> x.odds(0, 0, 0));
    }

    /** Which MASK a PERSON wore at an HOUR, SURE. BEYOND. NONE: it isn't SURE. */
    private static void behind() {
        masksAndHours("15: behind", (x, person, hour) -> x.behind(person, hour));
        Edge.idle("15: person 0, hour 0", 0, HoldEdgeTest::muchSeen, x -> x.behind(0, 0));
        Edge.idle("15: the last person, hour 99", 3, HoldEdgeTest::muchSeen, x -> x.behind(4, 99));
        Edge.refused("15: not sure", Due.NONE, Given::much, x -> x.behind(4, 99));
        Edge.refused("15: none holds", Due.NONE, Given::noneHolds, x -> x.behind(0, 0));
        Edge.idle("15: mask 7 at hour 99", 7, x -> {
            x.people(8);
            x.bow(99, 0, 7, 10);
        }, x -> x.behind(0, 99));
        Edge.idle("15: mask 0 an hour earlier", 0, x -> {
            x.people(8);
            x.bow(99, 0, 7, 10);
        }, x -> x.behind(0, 98));
    }

    /** With which others a PERSON may have bowed (in some NIGHT that HOLDS), as a set. BEYOND. */
    private static void met() {
        for (Edge.Told told : new Edge.Told[] {Given::much, Given::noneHolds}) {
            for (int wrong : new int[] {-1, 5, LEAST, MOST}) {
                Edge.refused("16: met(" + wrong + ")", Due.BEYOND, told, x -> x.met(wrong));
            }
        }
        Edge.idle("16: no bows", 0, Given::nothing, x -> x.met(0));
        Edge.idle("16: person 4", 8, Given::much, x -> x.met(4));
        // Person 0 goes on to mask 1, to mask 2, to mask 3, and meets their wearers.
        Edge.Told threeInOneNight = x -> {
            x.bow(0, 0, 1, 10);
            x.bow(1, 1, 2, 10);
            x.bow(2, 2, 3, 10);
        };
        Edge.idle("16: three in one night", 2 + 4 + 8, threeInOneNight, x -> x.met(0));
        Edge.idle("16: each of these met 0 alone", 1, threeInOneNight, x -> x.met(2));
        Edge.idle("16: two in one night, told behind", 1 + 4, x -> {
            x.bow(0, 0, 1, 10);
            x.bow(1, 2, 0, 10);
        }, x -> x.met(1));
        Edge.idle("16: the last may be met", 128, x -> {
            x.people(8);
            x.bow(99, 0, 7, 1);
        }, x -> x.met(0));
        Edge.idle("16: the last may meet", 1, x -> {
            x.people(8);
            x.bow(99, 0, 7, 1);
        }, x -> x.met(7));
        Edge.idle("16: by 0 tenths none was met", 0, x -> x.bow(0, 0, 1, 0), x -> x.met(0));
        Edge.idle("16: none holds", 0, Given::noneHolds, x -> x.met(0));
        Edge.idle("16: in a night that is barred none was met", 0, x -> {
            x.bow(0, 0, 1, 5);
            x.says(0, 0, 0, true);
            x.let(1, true);
        }, x -> x.met(0));
    }

    /** The first SAYING such that in no NIGHT of a WEIGHT above 0 (not BARRED by RULE, if it is on) all up to it are so. */
    private static void lie() {
        Edge.refused("17: no sayings", Due.NONE, Given::nothing, x -> x.lie());
        Edge.refused("17: no sayings, the rule bars all", Due.NONE, x -> {
            Given.bowsAt(1, 2).to(x);
            x.let(0, true);
        }, x -> x.lie());
        Edge.idle("17: a true saying, the rule bars all", 0, x -> {
            Given.bowsAt(1, 2).to(x);
            x.says(0, 0, 0, true);
            x.let(0, true);
        }, x -> x.lie());
        Edge.Told tenth = x -> {
            x.bow(5, 0, 1, 5);
            for (int i = 0; i < 9; i++) {
                x.says(5, 0, 1, true);
            }
            x.says(5, 0, 0, true);
        };
        Edge.idle("17: the 10th", 9, tenth, x -> x.lie());
        Edge.idle("17: the 10th, believed", 9, x -> {
            tenth.to(x);
            x.let(1, true);
        }, x -> x.lie());
        Edge.idle("17: the 1st", 0, x -> {
            x.says(0, 0, 0, false);
            x.says(0, 0, 0, true);
        }, x -> x.lie());
        Edge.idle("17: by a weight of 0 none is so", 0, x -> {
            x.bow(5, 0, 1, 0);
            x.says(5, 0, 1, true);
        }, x -> x.lie());
        Edge.refused("17: by a weight of 1 it may be", Due.NONE, x -> {
            x.bow(5, 0, 1, 1);
            x.says(5, 0, 1, true);
        }, x -> x.lie());
        Edge.idle("17: each may be, but not together", 1, x -> {
            x.bow(5, 0, 1, 5);
            x.says(5, 0, 1, true);
            x.says(5, 1, 1, true);
            x.says(5, 0, 1, true);
        }, x -> x.lie());
    }

    /** Where no NIGHT HOLDS. */
    private static void noneHolds() {
        Edge.idle("9: none", 0, Given::noneHolds, x -> x.nights());
        Edge.idle("10: none", 0, Given::noneHolds, x -> x.all());
        Edge.idle("17: the saying that can't be", 2, Given::noneHolds, x -> x.lie());
    }
}
