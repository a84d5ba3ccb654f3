/** Promises 9 to 17: nights that hold. */
public final class HoldTest {
    public static void main(String[] args) {
        nightsAndAll();
        likeliest();
        wore();
        may();
        odds();
        behind();
        met();
        lie();
        Due.end("HoldTest");
    }

    /** Masks 0 and 1 at hour 2 by 3 tenths, masks 1 and 2 at hour 4 by 6. */
    private static MaskBows twoDoubts() {
        MaskBows x = new MaskBows();
        x.bow(2, 0, 1, 3);
        x.bow(4, 1, 2, 6);
        return x;
    }

    private static void nightsAndAll() {
        MaskBows x = twoDoubts();
        Due.is("9: four", 4, x.nights());
        Due.is("10: ten by ten", 100, x.all());
        x.doubt(0, 0);
        Due.is("9: of no weight it doesn't hold", 2, x.nights());
        Due.is("10: the other way has all", 100, x.all());
        x.doubt(0, 3);
        x.says(9, 0, 0, true);
        Due.is("9: not believed", 4, x.nights());
        x.let(1, true);
        Due.is("9: believed", 2, x.nights());
        Due.is("10: believed", 70, x.all());
        x.says(9, 0, 0, false);
        Due.is("9: none", 0, x.nights());
        Due.is("10: none", 0, x.all());
        rule();
        most();
    }

    private static void rule() {
        MaskBows x = new MaskBows();
        x.bow(1, 0, 1, 10);
        x.bow(2, 1, 2, 4);
        x.bow(3, 0, 1, 7);
        // Persons 0 and 1 bow at hour 1. If 0 (in mask 1) bows to 2 then, mask 1 is 2's at hour 3.
        x.let(0, true);
        Due.is("9: the rule goes by persons, not by masks", 3, x.nights());
        Due.is("10: what it leaves", 100 - 6 * 7, x.all());
        x.let(0, false);
        Due.is("9: the rule is off", 4, x.nights());
    }

    private static void most() {
        MaskBows x = new MaskBows();
        for (int i = 0; i < 6; i++) {
            x.bow(i, 0, 1, i + 1);
        }
        Due.is("9: at most", 64, x.nights());
        Due.is("10: at most", 1000000, x.all());
        for (int i = 6; i < 20; i++) {
            x.bow(i, i % 2, 2 + i % 2, 10);
        }
        // Fourteen seen bows, seven of masks 0 and 2, seven of masks 1 and 3: an odd count of each.
        // One of the doubted is of five tenths: masks 0 and 1 are changed by half.
        Due.is("14: with twenty bows", 500000, x.odds(2, 0, 99));
        Due.is("14: and the other", 500000, x.odds(2, 1, 99));
        Due.is("14: no other", 0, x.odds(2, 2, 99));
        Due.is("14: what was mask 2's", 1000000, x.odds(0, 2, 99));
        Due.is("14: a step earlier", 1000000, x.odds(3, 3, 18));
        Due.is("14: and then", 1000000, x.odds(1, 3, 19));
    }

    private static void likeliest() {
        MaskBows x = new MaskBows();
        Due.is("11: no bows", 0, x.likeliest());
        x.bow(5, 0, 1, 10);
        x.bow(4, 0, 1, 6);
        x.bow(3, 0, 1, 10);
        x.bow(2, 0, 1, 4);
        Due.is("11: seen ones, too", 7, x.likeliest());
        x.doubt(1, 5);
        x.doubt(3, 5);
        Due.is("11: of several the least", 5, x.likeliest());
        // An even count of bows: with the seen two, both or neither of the doubted.
        x.says(99, 0, 1, true);
        x.let(1, true);
        Due.is("11: the least of those that hold", 7, x.likeliest());
        x.doubt(3, 6);
        Due.is("11: more weight is ahead of a lesser set", 13, x.likeliest());
        x.says(99, 0, 0, true);
        Due.is("11: none holds", Due.NONE, x.likeliest());
    }

    private static void wore() {
        MaskBows x = twoDoubts();
        Due.is("12: ahead of the bows", 1, x.wore(1, 1));
        Due.is("12: that hour's bows are behind it", Due.NONE, x.wore(1, 2));
        Due.is("12: another mask", 2, x.wore(2, 3));
        Due.is("12: mask 3", 3, x.wore(3, 99));
        Due.is("12: mask -1", Due.BEYOND, x.wore(-1, 0));
        Due.is("12: mask 4", Due.BEYOND, x.wore(4, 0));
        Due.is("12: hour -1", Due.BEYOND, x.wore(0, -1));
        Due.is("12: hour 100", Due.BEYOND, x.wore(0, 100));
        x.says(2, 0, 1, true);
        x.let(1, true);
        Due.is("12: a believed saying makes it sure", 1, x.wore(0, 2));
        x.says(2, 0, 0, true);
        Due.is("12: none holds", Due.NONE, x.wore(3, 0));
    }

    private static void may() {
        MaskBows x = twoDoubts();
        Due.is("13: one", 2, x.may(1, 1));
        Due.is("13: two", 3, x.may(1, 2));
        Due.is("13: three", 7, x.may(2, 4));
        Due.is("13: mask 4", Due.BEYOND, x.may(4, 0));
        Due.is("13: mask -1", Due.BEYOND, x.may(-1, 0));
        Due.is("13: hour 100", Due.BEYOND, x.may(0, 100));
        Due.is("13: hour -1", Due.BEYOND, x.may(0, -1));
        x.says(0, 0, 1, true);
        x.let(1, true);
        Due.is("13: none holds", 0, x.may(0, 0));
    }

    private static void odds() {
        MaskBows x = twoDoubts();
        Due.is("14: mask 2, person 0", 18, x.odds(2, 0, 99));
        Due.is("14: mask 2, person 1", 42, x.odds(2, 1, 99));
        Due.is("14: mask 2, person 2", 40, x.odds(2, 2, 99));
        Due.is("14: mask 2, person 3", 0, x.odds(2, 3, 99));
        Due.is("14: earlier", 100, x.odds(2, 2, 3));
        Due.is("14: mask 4", Due.BEYOND, x.odds(4, 0, 0));
        Due.is("14: mask -1", Due.BEYOND, x.odds(-1, 0, 0));
        Due.is("14: person 4", Due.BEYOND, x.odds(0, 4, 0));
        Due.is("14: person -1", Due.BEYOND, x.odds(0, -1, 0));
        Due.is("14: hour 100", Due.BEYOND, x.odds(0, 0, 100));
        Due.is("14: hour -1", Due.BEYOND, x.odds(0, 0, -1));
    }

    private static void behind() {
        MaskBows x = twoDoubts();
        x.doubt(0, 10);
        Due.is("15: person 0", 1, x.behind(0, 2));
        Due.is("15: person 1", 0, x.behind(1, 99));
        Due.is("15: not sure", Due.NONE, x.behind(0, 4));
        Due.is("15: person 3", 3, x.behind(3, 99));
        Due.is("15: person 4", Due.BEYOND, x.behind(4, 0));
        Due.is("15: person -1", Due.BEYOND, x.behind(-1, 0));
        Due.is("15: hour 100", Due.BEYOND, x.behind(0, 100));
        Due.is("15: hour -1", Due.BEYOND, x.behind(0, -1));
        x.bow(3, 1, 3, 10);
        // Hour 2: 1 0 2 3. Hour 3: 1 3 2 0.
        Due.is("15: not who wears it, but which mask", 3, x.behind(0, 99));
        Due.is("15: the other way round", 0, x.wore(3, 99));
        x.says(0, 0, 1, true);
        x.let(1, true);
        Due.is("15: none holds", Due.NONE, x.behind(3, 0));
    }

    private static void met() {
        MaskBows x = twoDoubts();
        Due.is("16: person 0", 2 + 4, x.met(0));
        Due.is("16: person 1", 1 + 4, x.met(1));
        Due.is("16: person 2", 1 + 2, x.met(2));
        Due.is("16: person 3", 0, x.met(3));
        Due.is("16: person 4", Due.BEYOND, x.met(4));
        Due.is("16: person -1", Due.BEYOND, x.met(-1));
        x.doubt(0, 0);
        Due.is("16: what never was", 0, x.met(0));
        Due.is("16: only as far as it holds", 4, x.met(1));
        x.says(0, 0, 1, true);
        x.let(1, true);
        Due.is("16: none holds", 0, x.met(1));
    }

    private static void lie() {
        MaskBows x = twoDoubts();
        Due.is("17: no sayings", Due.NONE, x.lie());
        x.says(9, 0, 1, true);
        x.says(9, 3, 3, true);
        Due.is("17: all can be", Due.NONE, x.lie());
        x.says(9, 2, 1, true);
        Due.is("17: with mask 0 person 1 has no other", 2, x.lie());
        x.says(9, 0, 2, true);
        Due.is("17: the first such", 2, x.lie());
        x.let(1, true);
        Due.is("17: believed or not", 2, x.lie());
        x.let(1, false);
        x.doubt(0, 0);
        Due.is("17: a weight above 0", 0, x.lie());
        barredByRule();
    }

    private static void barredByRule() {
        MaskBows x = new MaskBows();
        x.bow(0, 0, 1, 10);
        x.bow(1, 0, 1, 5);
        x.says(5, 2, 2, true);
        x.says(5, 0, 0, true);
        Due.is("17: without the rule", Due.NONE, x.lie());
        x.let(0, true);
        Due.is("17: with the rule", 1, x.lie());
        x.doubt(1, 10);
        Due.is("17: the rule bars all", 0, x.lie());
    }
}
