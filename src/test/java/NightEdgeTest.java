/** Edges of promises 1 to 8, each by the sentence of the document that names it. */
public final class NightEdgeTest {
    private static final int LEAST = Integer.MIN_VALUE;
    private static final int MOST = Integer.MAX_VALUE;

    public static void main(String[] args) {
        newObject();
        peopleFrom2To8();
        peopleWithBowsDeedsSayings();
        bowBeyond();
        bowFull();
        bowFindingsInOrder();
        bowsByHours();
        tenthsAtBothEnds();
        bowOf();
        doubtBeyond();
        doubtFull();
        let();
        saysBeyond();
        saysFull();
        sayingOf();
        Due.end("NightEdgeTest");
    }

    /** N is 4; no BOWS, DEEDS, SAYINGS; THE TAPE is empty, no image is kept; a sheet is MISSING at first. */
    private static void newObject() {
        Edge.taken("1: the tape is empty", 0, Given::nothing, x -> x.wipe());
        Edge.taken("1: nothing was kept", 0, Given::nothing, x -> x.tear());
        Edge.refused("1: nothing is kept", Due.NONE, Given::nothing, x -> x.undo());
        Edge.refused("1: no bow 0", Due.BEYOND, Given::nothing, x -> x.bowOf(0, 0));
        Edge.refused("1: no deed 0", Due.BEYOND, Given::nothing, x -> x.deedOf(0, 0));
        Edge.refused("1: no saying 0", Due.BEYOND, Given::nothing, x -> x.sayingOf(0, 0));
        for (int k = 0; k < 4; k++) {
            int p = k;
            Edge.taken("1: person " + p + " wears its mask, hour 0", p, Given::nothing, x -> x.wore(p, 0));
            Edge.taken("1: person " + p + " wears its mask, hour 99", p, Given::nothing, x -> x.wore(p, 99));
            Edge.refused("1: sheet " + p + " is missing", Due.MISSING, Given::nothing, x -> x.write(p, 0, 0));
        }
        Edge.refused("1: no mask 4", Due.BEYOND, Given::nothing, x -> x.wore(4, 0));
        Edge.idle("1: the rule is off", 0, Given::nothing, x -> x.let(0, false));
        Edge.idle("1: sayings are not believed", 0, Given::nothing, x -> x.let(1, false));
    }

    /** N PERSONS and MASKS 0 to N less 1 (2 to 8; 4 at first). BEYOND. */
    private static void peopleFrom2To8() {
        for (int n : new int[] {1, 0, -1, 9, 4 + 256, LEAST, MOST}) {
            Edge.refused("2: people(" + n + ")", Due.BEYOND, Given::nothing, x -> x.people(n));
        }
        for (int n = 2; n <= 8; n++) {
            int v = n;
            Edge.taken("2: people(" + v + ")", 4, Given::nothing, x -> x.people(v));
            Edge.taken("2: what it was, " + v, v, x -> x.people(v), x -> x.people(2));
            Edge.taken("2: the last mask of " + v, v - 1, x -> x.people(v), x -> x.wore(v - 1, 99));
            Edge.refused("2: one mask more than " + v, Due.BEYOND, x -> x.people(v), x -> x.wore(v, 99));
        }
        Edge.idle("2: N as it was", 4, Given::nothing, x -> x.people(4));
    }

    /** STATE: there are BOWS, DEEDS or SAYINGS. */
    private static void peopleWithBowsDeedsSayings() {
        Edge.Told bow = x -> x.bow(0, 0, 1, 0);
        Edge.Told deed = x -> x.deed(0, 0, 0, 1, 0);
        Edge.Told saying = x -> x.says(0, 0, 0, true);
        for (Edge.Told told : new Edge.Told[] {bow, deed, saying, Given::much}) {
            Edge.refused("2: another N", Due.STATE, told, x -> x.people(8));
            Edge.refused("2: N as it is", Due.STATE, told, x -> x.people(x.count(0)));
            Edge.refused("2: BEYOND is asked first, 1", Due.BEYOND, told, x -> x.people(1));
            Edge.refused("2: BEYOND is asked first, 9", Due.BEYOND, told, x -> x.people(9));
        }
        Edge.taken("2: rule, belief, tape, sheets, an image are no bar", 4, x -> {
            x.let(0, true);
            x.let(1, true);
            x.feed(0, 4);
            x.sheet(0, 8, 1);
            x.image();
        }, x -> x.people(8));
        Edge.taken("2: when undo() took the bows", 4, x -> {
            x.image();
            x.bow(0, 0, 1, 10);
            x.undo();
        }, x -> x.people(3));
    }

    private static void refusedBow(String what, int hour, int one, int other, int tenths) {
        Edge.refused("3: " + what, Due.BEYOND, Given::much, x -> x.bow(hour, one, other, tenths));
    }

    private static void takenBow(String what, int hour, int one, int other, int tenths) {
        Edge.taken("3: " + what, 4, Given::much, x -> x.bow(hour, one, other, tenths));
        MaskBows x = Edge.made(Given::much);
        x.bow(hour, one, other, tenths);
        Due.is("3: hour of " + what, hour, x.bowOf(4, 0));
        Due.is("3: one of " + what, one, x.bowOf(4, 1));
        Due.is("3: other of " + what, other, x.bowOf(4, 2));
        Due.is("3: tenths of " + what, tenths, x.bowOf(4, 3));
        Due.is("3: how many with " + what, 5, x.count(1));
    }

    /** BEYOND: hour, masks, tenths. */
    private static void bowBeyond() {
        takenBow("the first hour", 0, 0, 1, 10);
        takenBow("the last hour", 99, 0, 1, 10);
        takenBow("the first mask ahead", 0, 0, 4, 10);
        takenBow("the first mask behind", 0, 4, 0, 10);
        takenBow("tenths 0", 0, 0, 1, 0);
        takenBow("tenths 9", 0, 0, 1, 9);
        takenBow("tenths 10", 0, 0, 1, 10);
        for (int wrong : new int[] {-1, LEAST, MOST}) {
            refusedBow("hour " + wrong, wrong, 0, 1, 10);
            refusedBow("one " + wrong, 0, wrong, 1, 10);
            refusedBow("other " + wrong, 0, 0, wrong, 10);
            refusedBow("tenths " + wrong, 0, 0, 1, wrong);
            refusedBow("both masks " + wrong, 0, wrong, wrong, 10);
        }
        refusedBow("hour 100", 100, 0, 1, 10);
        refusedBow("mask N", 0, 5, 1, 10);
        refusedBow("other mask N", 0, 0, 5, 10);
        refusedBow("tenths 11", 0, 0, 1, 11);
        refusedBow("one mask twice, 0", 0, 0, 0, 10);
        refusedBow("one mask twice, N less 1", 0, 4, 4, 10);
    }

    /** 20 BOWS at most, 6 DOUBTED ones at most: FULL (also a 7th DOUBTED one). */
    private static void bowFull() {
        Edge.Told nineteen = x -> {
            for (int i = 0; i < 19; i++) {
                x.bow(i, 0, 1, 10);
            }
        };
        Edge.taken("3: a 20th", 19, nineteen, x -> x.bow(99, 2, 3, 10));
        Edge.taken("3: a 20th, doubted", 19, nineteen, x -> x.bow(99, 2, 3, 0));
        Edge.refused("3: a 21st", Due.FULL, Given::twentyBows, x -> x.bow(0, 0, 1, 10));
        Edge.refused("3: a 21st, doubted", Due.FULL, Given::twentyBows, x -> x.bow(0, 0, 1, 5));
        Edge.Told five = x -> {
            Given.sixDoubted(x);
            x.doubt(0, 10);
        };
        Edge.taken("3: a 6th doubted one", 8, five, x -> x.bow(0, 0, 1, 9));
        Edge.refused("3: a 7th doubted one", Due.FULL, Given::sixDoubted, x -> x.bow(0, 0, 1, 9));
        Edge.refused("3: a 7th doubted one of no tenths", Due.FULL, Given::sixDoubted, x -> x.bow(0, 0, 1, 0));
        Edge.taken("3: a seen one with six doubted", 8, Given::sixDoubted, x -> x.bow(0, 0, 1, 10));
    }

    /** Findings in the order in which they are asked: BEYOND, FULL. */
    private static void bowFindingsInOrder() {
        for (Edge.Told full : new Edge.Told[] {Given::twentyBows, Given::sixDoubted}) {
            Edge.refused("3: hour ahead of FULL", Due.BEYOND, full, x -> x.bow(100, 0, 1, 5));
            Edge.refused("3: one ahead of FULL", Due.BEYOND, full, x -> x.bow(0, 4, 1, 5));
            Edge.refused("3: other ahead of FULL", Due.BEYOND, full, x -> x.bow(0, 0, -1, 5));
            Edge.refused("3: like masks ahead of FULL", Due.BEYOND, full, x -> x.bow(0, 1, 1, 5));
            Edge.refused("3: tenths ahead of FULL", Due.BEYOND, full, x -> x.bow(0, 0, 1, -1));
        }
    }

    /** Made in order of HOURS, at one HOUR by numbers. WORN: behind all BOWS of HOURS up to that (that HOUR's, too). */
    private static void bowsByHours() {
        Edge.taken("3: hour 0 is behind the bow of hour 0", 1, Given.bowsAt(0), x -> x.wore(0, 0));
        Edge.taken("3: hour 98 is ahead of a bow of hour 99", 0, Given.bowsAt(99), x -> x.wore(0, 98));
        Edge.taken("3: hour 99 is behind it", 1, Given.bowsAt(99), x -> x.wore(0, 99));
        Edge.Told back = x -> {
            x.bow(99, 1, 2, 10);
            x.bow(0, 0, 1, 10);
        };
        Edge.taken("3: the later number made first, mask 2", 0, back, x -> x.wore(2, 99));
        Edge.taken("3: the later number made first, mask 1", 2, back, x -> x.wore(1, 99));
        Edge.Told atOneHour = x -> {
            x.bow(7, 1, 2, 10);
            x.bow(7, 0, 1, 10);
        };
        Edge.taken("3: at one hour by numbers, mask 0", 2, atOneHour, x -> x.wore(0, 7));
        Edge.taken("3: at one hour by numbers, mask 2", 1, atOneHour, x -> x.wore(2, 7));
        Edge.Told allAtOneHour = x -> {
            for (int i = 0; i < 20; i++) {
                x.bow(50, i % 3, i % 3 + 1, 10);
            }
        };
        // Three by three the ring is turned: mask 3 gets 0's. Six times, then 01 and 12 once more.
        Edge.taken("3: twenty at one hour, mask 0", 3, allAtOneHour, x -> x.wore(0, 50));
        Edge.taken("3: twenty at one hour, mask 1", 0, allAtOneHour, x -> x.wore(1, 50));
        Edge.taken("3: twenty at one hour, mask 2", 2, allAtOneHour, x -> x.wore(2, 50));
        Edge.taken("3: twenty at one hour, mask 3", 1, allAtOneHour, x -> x.wore(3, 50));
    }

    /** TENTHS: 10 (it was seen) or 0 to 9 (it is DOUBTED). */
    private static void tenthsAtBothEnds() {
        Edge.taken("3: 0 tenths are doubted", 1, x -> x.bow(0, 0, 1, 0), x -> x.count(2));
        Edge.taken("3: 9 tenths are doubted", 1, x -> x.bow(0, 0, 1, 9), x -> x.count(2));
        Edge.taken("3: 10 tenths are not", 0, x -> x.bow(0, 0, 1, 10), x -> x.count(2));
        Edge.taken("3: by 0 tenths it was not made", 0, x -> x.bow(0, 0, 1, 0), x -> x.wore(0, 0));
        Edge.taken("3: by 10 tenths it was", 1, x -> x.bow(0, 0, 1, 10), x -> x.wore(0, 0));
        Edge.taken("3: by 9 tenths one part of ten was not", 1, x -> x.bow(0, 0, 1, 9), x -> x.odds(0, 0, 0));
    }

    /** Of a BOW: what 0 HOUR, 1, 2 the MASKS as told, 3 TENTHS. BEYOND. */
    private static void bowOf() {
        int[] last = {19, 3, 0, 6};
        for (int what = 0; what < 4; what++) {
            int w = what;
            Edge.idle("4: bowOf(19, " + w + ")", last[w], Given::twentyBows, x -> x.bowOf(19, w));
        }
        Edge.idle("4: bow 0", 1, Given::twentyBows, x -> x.bowOf(0, 2));
        for (int bow : new int[] {-1, 20, LEAST, MOST}) {
            Edge.refused("4: bow " + bow, Due.BEYOND, Given::twentyBows, x -> x.bowOf(bow, 0));
        }
        for (int what : new int[] {-1, 4, LEAST, MOST}) {
            Edge.refused("4: what " + what, Due.BEYOND, Given::twentyBows, x -> x.bowOf(0, what));
        }
        Edge.refused("4: the bow behind the last", Due.BEYOND, Given::much, x -> x.bowOf(4, 0));
    }

    /** TENTHS of a BOW become v (0 to 10): what they were. BEYOND. */
    private static void doubtBeyond() {
        for (int v : new int[] {-1, 11, 256, LEAST, MOST}) {
            Edge.refused("5: v " + v, Due.BEYOND, Given::much, x -> x.doubt(0, v));
        }
        for (int bow : new int[] {-1, 4, LEAST, MOST}) {
            Edge.refused("5: bow " + bow, Due.BEYOND, Given::much, x -> x.doubt(bow, 5));
        }
        for (int v = 0; v <= 10; v++) {
            int tenths = v;
            Edge.taken("5: v " + v, 4, Given::much, x -> x.doubt(1, tenths));
            Edge.taken("5: it became " + v, tenths, x -> {
                Given.much(x);
                x.doubt(1, tenths);
            }, x -> x.bowOf(1, 3));
        }
        Edge.idle("5: the last bow, as it was", 6, Given::much, x -> x.doubt(3, 6));
        Edge.idle("5: bow 19", 6, Given::twentyBows, x -> x.doubt(19, 6));
    }

    /** FULL: it would be a 7th DOUBTED one. */
    private static void doubtFull() {
        for (int v : new int[] {0, 9}) {
            Edge.refused("5: a 7th, v " + v, Due.FULL, Given::sixDoubted, x -> x.doubt(6, v));
            Edge.taken("5: one of the six, v " + v, 4, Given::sixDoubted, x -> x.doubt(5, v));
        }
        Edge.idle("5: seen it stays", 10, Given::sixDoubted, x -> x.doubt(7, 10));
        Edge.taken("5: one of the six is seen", 9, Given::sixDoubted, x -> x.doubt(0, 10));
        Edge.taken("5: then there is room for a 6th", 10, x -> {
            Given.sixDoubted(x);
            x.doubt(0, 10);
        }, x -> x.doubt(7, 0));
        Edge.refused("5: v ahead of FULL", Due.BEYOND, Given::sixDoubted, x -> x.doubt(6, 11));
        Edge.refused("5: v below ahead of FULL", Due.BEYOND, Given::sixDoubted, x -> x.doubt(6, -1));
        Edge.refused("5: the bow ahead of FULL", Due.BEYOND, Given::sixDoubted, x -> x.doubt(8, 5));
    }

    /** RULE (what 0) is on, SAYINGS are BELIEVED (1), or not: 1 if that is new, else 0. BEYOND. */
    private static void let() {
        for (int what : new int[] {-1, 2, LEAST, MOST}) {
            Edge.refused("6: let(" + what + ", true)", Due.BEYOND, Given::much, x -> x.let(what, true));
            Edge.refused("6: let(" + what + ", false)", Due.BEYOND, Given::much, x -> x.let(what, false));
        }
        for (int what = 0; what < 2; what++) {
            int w = what;
            Edge.taken("6: on is new, " + w, 1, Given::much, x -> x.let(w, true));
            Edge.idle("6: off is not, " + w, 0, Given::much, x -> x.let(w, false));
            Edge.idle("6: on again is not, " + w, 0, x -> x.let(w, true), x -> x.let(w, true));
            Edge.taken("6: off is new then, " + w, 1, x -> x.let(w, true), x -> x.let(w, false));
            Edge.idle("6: each for itself, " + w, 0, x -> x.let(w, true), x -> x.let(1 - w, false));
        }
    }

    private static void refusedSaying(String what, int hour, int mask, int person) {
        Edge.refused("7: " + what, Due.BEYOND, Given::much, x -> x.says(hour, mask, person, true));
        Edge.refused("7: " + what + " with FULL", Due.BEYOND, Given::tenSayings, x -> x.says(hour, mask, person, false));
    }

    /** A new SAYING: at an HOUR a MASK was worn by a PERSON (is), or not: its number. BEYOND. */
    private static void saysBeyond() {
        for (int wrong : new int[] {-1, LEAST, MOST, 100}) {
            refusedSaying("hour " + wrong, wrong, 0, 0);
            refusedSaying("mask " + wrong, 0, wrong, 0);
            refusedSaying("person " + wrong, 0, 0, wrong);
        }
        Edge.refused("7: mask N", Due.BEYOND, Given::much, x -> x.says(0, 5, 0, true));
        Edge.refused("7: person N", Due.BEYOND, Given::much, x -> x.says(0, 0, 5, true));
        Edge.taken("7: hour 0, the least", 2, Given::much, x -> x.says(0, 0, 0, true));
        Edge.taken("7: hour 99, the greatest", 2, Given::much, x -> x.says(99, 4, 4, false));
    }

    /** 10 SAYINGS at most. FULL. */
    private static void saysFull() {
        Edge.taken("7: a 10th", 9, x -> {
            for (int i = 0; i < 9; i++) {
                x.says(i, 0, 0, true);
            }
        }, x -> x.says(0, 0, 0, true));
        Edge.refused("7: an 11th", Due.FULL, Given::tenSayings, x -> x.says(0, 0, 0, true));
        Edge.refused("7: an 11th that isn't", Due.FULL, Given::tenSayings, x -> x.says(99, 3, 3, false));
    }

    /** Of a SAYING: what 0 HOUR, 1 MASK, 2 PERSON, 3 1 if it says so, else 0. BEYOND. */
    private static void sayingOf() {
        int[][] ends = {{0, 0, 3, 1}, {9, 1, 0, 0}};
        for (int what = 0; what < 4; what++) {
            int w = what;
            Edge.idle("8: sayingOf(0, " + w + ")", ends[0][w], Given::tenSayings, x -> x.sayingOf(0, w));
            Edge.idle("8: sayingOf(9, " + w + ")", ends[1][w], Given::tenSayings, x -> x.sayingOf(9, w));
        }
        for (int saying : new int[] {-1, 10, LEAST, MOST}) {
            Edge.refused("8: saying " + saying, Due.BEYOND, Given::tenSayings, x -> x.sayingOf(saying, 0));
        }
        for (int what : new int[] {-1, 4, LEAST, MOST}) {
            Edge.refused("8: what " + what, Due.BEYOND, Given::tenSayings, x -> x.sayingOf(0, what));
        }
        Edge.refused("8: the saying behind the last", Due.BEYOND, Given::much, x -> x.sayingOf(2, 0));
    }
}
