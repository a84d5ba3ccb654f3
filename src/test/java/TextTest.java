/** Promises 34 to 36: the tape and the text. */
public final class TextTest {
    public static void main(String[] args) {
        feed();
        wipe();
        items();
        lookedAtAnew();
        faults();
        limits();
        nothingChanges();
        Due.end("TextTest");
    }

    private static void feed() {
        MaskBows x = new MaskBows();
        Due.is("34: n 0", Due.BEYOND, x.feed(0, 0));
        Due.is("34: n 5", Due.BEYOND, x.feed(0, 5));
        Due.is("34: n -1", Due.BEYOND, x.feed(0, -1));
        Due.is("34: n least", Due.BEYOND, x.feed(0, Integer.MIN_VALUE));
        // "rule" then " on", with another byte above these three.
        Due.is("34: four bytes", 4, x.feed(0x72756c65, 4));
        Due.is("34: the lowest three", 7, x.feed(0x7a206f6e, 3));
        Due.is("34: the highest first", 1, x.carnival());
        Due.is("34: it was read so", 0, x.let(0, true));
        for (int i = 1; i <= 29; i++) {
            Due.is("34: feed " + i, 4 * i, x.feed(0x20202020, 4));
        }
        Due.is("34: 117", 117, x.feed(32, 1));
        Due.is("34: BEYOND ahead of FULL", Due.BEYOND, x.feed(32, 5));
        Due.is("34: 121 would be too many", Due.FULL, x.feed(32, 4));
        Due.is("34: 120", 120, x.feed(32, 3));
        Due.is("34: full", Due.FULL, x.feed(32, 1));
        Due.is("34: count(5)", 120, x.count(5));
    }

    private static void wipe() {
        MaskBows x = new MaskBows();
        Due.is("35: empty", 0, x.wipe());
        Due.feed(x, "rule on");
        Due.is("35: seven", 7, x.wipe());
        Due.is("35: then none", 0, x.count(5));
        Due.is("35: nothing is left to read", -1, x.carnival());
        Due.is("35: nothing was read", 0, x.let(0, false));
    }

    private static void items() {
        MaskBows x = new MaskBows();
        Due.is("36: a seen bow", 1, Due.carnival(x, "bow 1 0 2"));
        dueRow("36: bow", new int[] {1, 0, 2, 10}, new int[] {x.bowOf(0, 0), x.bowOf(0, 1), x.bowOf(0, 2), x.bowOf(0, 3)});
        Due.is("36: doubted ones", 2, Due.carnival(x, "  bow99 3 1doubt0;bow 0 2 3 doubt 9  "));
        dueRow("36: bow", new int[] {99, 3, 1, 0}, new int[] {x.bowOf(1, 0), x.bowOf(1, 1), x.bowOf(1, 2), x.bowOf(1, 3)});
        Due.is("36: tenths", 9, x.bowOf(2, 3));
        String[] kinds = {"deed", "debt", "duel", "kiss", "vow", "theft"};
        for (int kind = 0; kind < 6; kind++) {
            Due.is("36: " + kinds[kind], 1, Due.carnival(x, kinds[kind] + " 7 1 to 3"));
            dueRow("36: " + kinds[kind], new int[] {kind, 7, 1, 3, 10}, deedRow(x, kind));
        }
        Due.is("36: coins", 2, Due.carnival(x, "debt 7 1 to 3 coins 0; vow 007 0001 to 0 coins 00000999"));
        dueRow("36: coins 0", new int[] {1, 7, 1, 3, 0}, deedRow(x, 6));
        dueRow("36: coins 999", new int[] {4, 7, 1, 0, 999}, deedRow(x, 7));
        Due.is("36: sayings", 2, Due.carnival(x, "says 5 0 is 0;says 6 1 not 3"));
        dueRow("36: is", new int[] {5, 0, 0, 1}, sayingRow(x, 0));
        dueRow("36: not", new int[] {6, 1, 3, 0}, sayingRow(x, 1));
        Due.is("36: switches", 4, Due.carnival(x, "rule on;rule off;believe off;believe on"));
        Due.is("36: the rule is off", 0, x.let(0, false));
        Due.is("36: sayings are believed", 0, x.let(1, true));
        Due.is("36: the tape is empty", 0, x.count(5));
        Due.is("36: no finding", 0, x.status(-1));
    }

    /** What was looked at ahead of a text may not stay. */
    private static void lookedAtAnew() {
        MaskBows x = new MaskBows();
        Due.is("36: one night", 1, x.nights());
        Due.carnival(x, "bow 3 0 1 doubt 5; bow 4 0 1 doubt 5");
        Due.is("36: four nights", 4, x.nights());
    }

    private static int[] deedRow(MaskBows x, int deed) {
        return new int[] {x.deedOf(deed, 0), x.deedOf(deed, 1), x.deedOf(deed, 2), x.deedOf(deed, 3), x.deedOf(deed, 4)};
    }

    private static int[] sayingRow(MaskBows x, int saying) {
        return new int[] {x.sayingOf(saying, 0), x.sayingOf(saying, 1), x.sayingOf(saying, 2), x.sayingOf(saying, 3)};
    }

    private static void dueRow(String what, int[] want, int[] got) {
        for (int i = 0; i < want.length; i++) {
            Due.is(what + ", part " + i, want[i], got[i]);
        }
    }

    /** Each with a bar ahead of the first byte of the token at fault, or at the end. */
    private static void faults() {
        String[] texts = {
            "|", "   |", "|;", "|bo", "|bowx 1 0 1", "|bowz 1 0 1", "|abow 1 0 1", "bow|_ 1 0 1", "bow 9|: 0 1", "bow 9|/ 0 1", "|Bow 1 0 1", "|1", "|@", "|\n",
            "bow|", "bow  |", "bow |x", "bow |;", "bow |100 0 1", "bow |1000 0 1", "bow |4294967297 0 1",
            "bow 1|", "bow 1 |4 0", "bow 1 |to", "bow 1 0|", "bow 1 0 |0", "bow 1 0 |00", "bow 1 0 |4", "bow 1 0 |-1",
            "bow 1 0 1 |2", "bow 1 0 1 |dou", "bow 1 0 1 |bow", "bow 1 0 1 doubt|", "bow 1 0 1 doubt |10",
            "bow 1 0 1 doubt |;", "bow 1 0 1 doubt 9 |9", "bow 1 0 1 doubt 9 |doubt", "bow 1 0 1;|", "bow 1 0 1; |",
            "bow 1 0 1;|;", "bow 1 0 1 |,", "bow 1 0 1 |coins 5", "bow 1 0 |is 1",
            "deed|", "deed |100 0 to 1", "deed 5 |4 to 1", "deed 5 0|", "deed 5 0 |1", "deed 5 0 |too 1", "deed 5 0 to|",
            "deed 5 0 to |0", "deed 5 0 to |4", "deed 5 0 to 1 |5", "deed 5 0 to 1 |doubt 5", "deed 5 0 to 1 coins|",
            "deed 5 0 to 1 coins |1000", "deed 5 0 to 1 coins |x", "deed 5 0 to 1 coins 5 |coins", "|deeds 5 0 to 1",
            "vow 5 0 to 1; kiss 5 0 to 1; |thefts 5 0 to 1",
            "says|", "says |100 0 is 0", "says 0 |4 is 0", "says 0 0|", "says 0 0 |0", "says 0 0 |isnt 0", "says 0 0 is|",
            "says 0 0 is |4", "says 0 0 is |is", "says 0 0 is 0 |0", "says 0 0 not |not",
            "rule|", "rule |of", "rule |1", "rule |;", "rule on |on", "believe|", "believe |onn", "|believes on",
            "|to", "|coins 5", "|on", "|is", "|doubt 5", "|not", "rule on;rule off |believe on",
            "bow 1|\t0 1", "rule on|" + (char) 0, "rule on|" + (char) 160, "rule |" + (char) 233,
        };
        for (String text : texts) {
            MaskBows x = new MaskBows();
            String plain = text.replace("|", "");
            Due.is("36: " + text, -1 - text.indexOf('|'), Due.carnival(x, plain));
            Due.is("36: the tape is empty behind " + text, 0, x.count(5));
            Due.is("36: no finding by " + text, 0, x.status(-1));
            Due.is("36: nothing came of " + text, 0, x.count(1) + x.count(3) + x.count(4) + x.let(0, false) + x.let(1, false));
        }
    }

    private static void limits() {
        MaskBows x = new MaskBows();
        for (int i = 0; i < 18; i++) {
            x.bow(0, 0, 1, i < 5 ? 5 : 10);
        }
        x.image();
        Due.is("36: doubt for a 7th", -35, Due.carnival(x, "bow 0 0 1 doubt 5;      bow 0 0 1 doubt 5"));
        Due.is("36: seen it may come", 2, Due.carnival(x, "bow 0 0 1 doubt 5;      bow 0 0 1"));
        Due.is("36: bow for a 21st", -1, Due.carnival(x, "bow 0 0 1"));
        Due.is("36: bow alone for a 21st", -1, Due.carnival(x, "bow"));
        x.undo();
        Due.is("36: bow for a 21st in one text", -21, Due.carnival(x, "bow 0 0 1;bow 0 0 1;bow 0 0 1"));
        Due.is("36: none of them came", 18, x.count(1));
        for (int i = 0; i < 11; i++) {
            x.deed(0, 0, 0, 1, 0);
        }
        Due.is("36: a kind for a 13th", -15, Due.carnival(x, "deed 0 0 to 1;theft 0 0 to 1"));
        Due.is("36: a 12th", 1, Due.carnival(x, "deed 0 0 to 1"));
        Due.is("36: a kind's name for a 13th", -2, Due.carnival(x, " vow @"));
        for (int i = 0; i < 9; i++) {
            x.says(0, 0, 0, true);
        }
        Due.is("36: says for an 11th", -15, Due.carnival(x, "says 0 0 is 0;says 0 0 is 0"));
        Due.is("36: a 10th", 1, Due.carnival(x, "says 0 0 is 0"));
        Due.is("36: says alone for an 11th", -1, Due.carnival(x, "says"));
        MaskBows two = new MaskBows();
        two.people(2);
        Due.is("36: masks go by how many there are", -9, Due.carnival(two, "bow 1 0 2"));
        MaskBows eight = new MaskBows();
        eight.people(8);
        Due.is("36: mask 7", 1, Due.carnival(eight, "bow 1 0 7"));
        String many = "bow 1 0 1;rule on;rule on;rule on;rule on;rule on;rule on;rule on;rule on;rule on;rule on;rule on;rule on;rule on";
        Due.is("36: a long tape", 14, Due.carnival(eight, many));
    }

    private static void nothingChanges() {
        MaskBows x = new MaskBows();
        x.bow(1, 0, 1, 5);
        x.deed(1, 1, 0, 1, 7);
        x.says(1, 0, 1, true);
        String text = "bow 2 0 1;debt 0 0 to 1;says 1 0 is 0;rule on;believe on;";
        Due.is("36: the end is too early", -1 - text.length(), Due.carnival(x, text));
        Due.is("36: bows", 1, x.count(1));
        Due.is("36: deeds", 1, x.count(3));
        Due.is("36: sayings", 1, x.count(4));
        Due.is("36: rule", 0, x.let(0, false));
        Due.is("36: believed", 0, x.let(1, false));
        Due.is("36: nights", 2, x.nights());
        Due.is("36: without the last sign", 5, Due.carnival(x, text.substring(0, text.length() - 1)));
        Due.is("36: bows", 2, x.count(1));
        Due.is("36: rule", 0, x.let(0, true));
        Due.is("36: believed", 0, x.let(1, true));
    }
}
