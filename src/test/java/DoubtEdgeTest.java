/** Edges of promises 27 to 29, each by the sentence of the document that names it. */
public final class DoubtEdgeTest {
    public static void main(String[] args) {
        ask();
        askOfSeveral();
        witnesses();
        witnessesOfSeveral();
        unsure();
        Due.end("DoubtEdgeTest");
    }

    /** Whose ODDS of having been made and of not, the greater of them, are least. NONE: there is none, or no NIGHT HOLDS. */
    private static void ask() {
        Edge.refused("27: no bows", Due.NONE, Given::nothing, x -> x.ask());
        Edge.refused("27: no doubted bows", Due.NONE, Given.bowsAt(1, 2), x -> x.ask());
        Edge.refused("27: no night holds", Due.NONE, Given::noneHolds, x -> x.ask());
        Edge.idle("27: bow 0 alone", 0, x -> x.bow(0, 0, 1, 9), x -> x.ask());
        Edge.idle("27: sure as it is, of 0 tenths", 0, x -> x.bow(0, 0, 1, 0), x -> x.ask());
        Edge.idle("27: bow 19 is nearest to the half", 19, Given::twentyBows, x -> x.ask());
        Edge.idle("27: a 6th doubted one", 5, x -> {
            for (int i = 0; i < 6; i++) {
                x.bow(0, 0, 1, i < 5 ? 9 : 8);
            }
        }, x -> x.ask());
    }

    /** Of several the least. */
    private static void askOfSeveral() {
        Edge.idle("27: all alike", 0, x -> {
            for (int i = 0; i < 6; i++) {
                x.bow(9 - i, 0, 1, 5);
            }
        }, x -> x.ask());
        Edge.idle("27: 4 tenths are as near as 6", 1, x -> {
            x.bow(0, 0, 1, 7);
            x.bow(5, 0, 1, 6);
            x.bow(0, 0, 1, 4);
        }, x -> x.ask());
        Edge.idle("27: 6 tenths are as near as 4", 1, x -> {
            x.bow(0, 0, 1, 3);
            x.bow(5, 0, 1, 4);
            x.bow(0, 0, 1, 6);
        }, x -> x.ask());
    }

    /** The fewest DOUBTED BOWS such that, once one knows of these, DOERS of all DEEDS are SURE. (None if no NIGHT HOLDS: 0.) */
    private static void witnesses() {
        Edge.idle("28: nothing to know", 0, Given::nothing, x -> x.witnesses());
        Edge.idle("28: no deeds", 0, Given::sixDoubted, x -> x.witnesses());
        Edge.idle("28: no doubts", 0, x -> {
            Given.bowsAt(1, 2).to(x);
            x.deed(0, 1, 0, 1, 0);
        }, x -> x.witnesses());
        Edge.idle("28: no night holds", 0, Given::noneHolds, x -> x.witnesses());
        Edge.idle("28: all six", 63, x -> {
            for (int i = 0; i < 6; i++) {
                x.bow(i, 0, 1, 5);
                x.deed(0, i, 0, 1, 0);
            }
        }, x -> x.witnesses());
        Edge.idle("28: bow 19 for the 12th deed", 1 << 19, x -> {
            Given.twentyBows(x);
            for (int i = 0; i < 11; i++) {
                x.deed(0, 0, 0, 1, 0);
            }
            x.doubt(2, 10);
            x.deed(0, 19, 0, 3, 0);
        }, x -> x.witnesses());
        Edge.idle("28: bow 0 for the first of twelve", 1, x -> {
            x.bow(5, 0, 1, 5);
            x.deed(0, 5, 0, 1, 0);
            for (int i = 0; i < 11; i++) {
                x.deed(0, 5, 2, 3, 0);
            }
        }, x -> x.witnesses());
        for (int mask = 2; mask < 8; mask++) {
            int sure = mask;
            Edge.idle("28: a sure deed of mask " + sure + " hides no other", 1, x -> {
                x.people(8);
                x.bow(5, 0, 1, 5);
                x.deed(0, 5, 0, 1, 0);
                x.deed(0, 5, sure, 0, 0);
            }, x -> x.witnesses());
        }
        Edge.idle("28: the one it was done to may be unsure", 0, x -> {
            x.bow(0, 0, 1, 5);
            x.deed(0, 0, 2, 0, 0);
        }, x -> x.witnesses());
        Edge.idle("28: a doubted bow of 0 tenths need not be known", 0, x -> {
            x.bow(0, 0, 1, 0);
            x.deed(0, 0, 0, 1, 0);
        }, x -> x.witnesses());
    }

    /** Of several the least; whichever way, as far as a NIGHT HOLDS. */
    private static void witnessesOfSeveral() {
        // Just one of the two bows was made: to know of either is to know of both.
        Edge.Told oneOfTwo = x -> {
            x.bow(1, 2, 3, 10);
            x.bow(2, 0, 1, 5);
            x.bow(3, 0, 1, 5);
            x.says(9, 0, 1, true);
            x.let(1, true);
            x.deed(0, 2, 0, 3, 0);
        };
        Edge.idle("28: of two the least", 2, oneOfTwo, x -> x.witnesses());
        Edge.idle("28: not believed, the one ahead of the deed", 2, x -> {
            oneOfTwo.to(x);
            x.let(1, false);
        }, x -> x.witnesses());
        // Believed: an even count of the three was made, so that any two of them tell the third.
        Edge.Told evenOfThree = x -> {
            x.bow(1, 0, 1, 5);
            x.bow(2, 0, 1, 5);
            x.bow(3, 0, 1, 5);
            x.says(9, 0, 0, true);
            x.let(1, true);
        };
        Edge.idle("28: bow 2 alone tells it; fewer comes ahead of less", 4, x -> {
            evenOfThree.to(x);
            x.deed(0, 2, 0, 2, 0);
        }, x -> x.witnesses());
        Edge.idle("28: any two would do", 3, x -> {
            evenOfThree.to(x);
            x.deed(0, 1, 0, 2, 0);
            x.deed(0, 2, 0, 2, 0);
        }, x -> x.witnesses());
        Edge.idle("28: behind all three it is sure", 0, x -> {
            evenOfThree.to(x);
            x.deed(0, 3, 0, 2, 0);
        }, x -> x.witnesses());
    }

    /** Which DEEDS' DOERS aren't SURE, as a set. SURE: so in all that HOLD (and one HOLDS). */
    private static void unsure() {
        Edge.idle("29: no deeds", 0, Given::nothing, x -> x.unsure());
        Edge.idle("29: no deeds, none holds", 0, x -> {
            x.says(0, 0, 1, true);
            x.let(1, true);
        }, x -> x.unsure());
        Edge.idle("29: all twelve, for none holds", 4095, x -> {
            Given.twelveDeeds(x);
            x.says(0, 0, 1, true);
            x.let(1, true);
        }, x -> x.unsure());
        // Behind the bow of hour 5 these are of masks 0 and 1: deeds 5, 8 and 9.
        Edge.idle("29: those of masks 0 and 1", 32 + 256 + 512, Given::twelveDeeds, x -> x.unsure());
        Edge.idle("29: the 12th alone", 1 << 11, x -> {
            x.bow(99, 0, 1, 1);
            for (int i = 0; i < 11; i++) {
                x.deed(0, 98, 0, 1, 0);
            }
            x.deed(0, 99, 0, 1, 0);
        }, x -> x.unsure());
        Edge.idle("29: by 0 tenths it is sure", 0, x -> {
            x.bow(0, 0, 1, 0);
            x.deed(0, 0, 0, 1, 0);
        }, x -> x.unsure());
    }
}
