/** Edges of promises 34 to 36, each by the sentence of the document that names it. */
public final class TextEdgeTest {
    private static final int LEAST = Integer.MIN_VALUE;
    private static final int MOST = Integer.MAX_VALUE;

    public static void main(String[] args) {
        feedBeyond();
        feedFull();
        feedBytes();
        wipe();
        endsTooEarly();
        bytesThatBeginNoToken();
        blanks();
        words();
        signs();
        hours();
        masks();
        tenths();
        coins();
        persons();
        switches();
        numbers();
        longestTape();
        bowForA21st();
        doubtForA7th();
        kindForA13th();
        saysForAn11th();
        itemsComeToWhatThereIs();
        Due.end("TextEdgeTest");
    }

    /** So much, and an empty tape. */
    private static void much(MaskBows x) {
        Given.much(x);
        x.wipe();
    }

    /** The bar stands ahead of the first byte of the token at fault. Nothing changes, the tape is empty, no finding. */
    private static void fault(Edge.Told told, String text) {
        int place = text.indexOf('|');
        String plain = text.substring(0, place) + text.substring(place + 1);
        Edge.idle("36: " + text, -1 - place, told, x -> Due.carnival(x, plain));
    }

    private static void fault(String text) {
        fault(TextEdgeTest::much, text);
    }

    /** The text answers so many items and leaves what these calls leave. */
    private static void taken(String text, int items, Edge.Told calls) {
        Edge.taken("36: " + text, items, TextEdgeTest::much, x -> Due.carnival(x, text));
        Edge.alike("36: " + text, x -> {
            much(x);
            calls.to(x);
        }, x -> {
            much(x);
            Due.carnival(x, text);
        });
    }

    private static Edge.Told bytes(int n) {
        return x -> {
            for (int i = 0; i < n; i++) {
                x.feed(' ', 1);
            }
        };
    }

    /** n 1 to 4. BEYOND: n. */
    private static void feedBeyond() {
        for (int n : new int[] {-1, 0, 5, LEAST, MOST}) {
            Edge.refused("34: n " + n, Due.BEYOND, Given::much, x -> x.feed(0x3b3b3b3b, n));
            Edge.refused("34: n " + n + " ahead of FULL", Due.BEYOND, bytes(120), x -> x.feed(0x3b3b3b3b, n));
        }
        for (int n = 1; n <= 4; n++) {
            int v = n;
            Edge.taken("34: n " + v, v, Given::nothing, x -> x.feed(0, v));
            Edge.taken("34: behind what it has, n " + v, 17 + v, Given::much, x -> x.feed(0, v));
        }
    }

    /** THE TAPE (bytes, at most 120). FULL. */
    private static void feedFull() {
        for (int n = 1; n <= 4; n++) {
            int v = n;
            Edge.taken("34: up to 120 by " + v, 120, bytes(120 - v), x -> x.feed(0, v));
            Edge.refused("34: up to 121 by " + v, Due.FULL, bytes(121 - v), x -> x.feed(0, v));
            Edge.refused("34: 120 and " + v, Due.FULL, bytes(120), x -> x.feed(0, v));
        }
    }

    /** The n lowest bytes of a number, the highest of these first. */
    private static void feedBytes() {
        Edge.idle("34: \";\" is fed behind", -2, Given::nothing, x -> {
            x.feed(' ', 1);
            x.feed(';', 1);
            return x.carnival();
        });
        Edge.taken("34: four bytes and three, higher ones left out", 1, Given::nothing, x -> {
            x.feed(0x72756c65, 4);
            x.feed(0x7a206f6e, 3);
            return x.carnival();
        });
        Edge.taken("34: two bytes and one", 1, Given::nothing, x -> {
            x.feed(0xffff7275, 2);
            x.feed(0xffffff6c, 1);
            x.feed(0x65206f6e, 4);
            return x.carnival();
        });
        Edge.idle("34: -1 is bytes of 255", -1, Given::nothing, x -> {
            x.feed(-1, 4);
            return x.carnival();
        });
        Edge.taken("34: -1 is four bytes", 4, Given::nothing, x -> x.feed(-1, 4));
    }

    /** THE TAPE is empty: how many it had. */
    private static void wipe() {
        Edge.idle("35: none", 0, TextEdgeTest::much, x -> x.wipe());
        Edge.taken("35: 17", 17, Given::much, x -> x.wipe());
        Edge.taken("35: 120", 120, bytes(120), x -> x.wipe());
        Edge.taken("35: then 4 may come again", 4, bytes(120), x -> {
            x.wipe();
            return x.feed(0, 4);
        });
        Edge.alike("35: it is as if there had been none", Given::nothing, x -> {
            bytes(120).to(x);
            x.wipe();
        });
    }

    /** Or how many bytes there are if it ends too early. */
    private static void endsTooEarly() {
        fault("|");
        fault(" |");
        fault("   |");
        String whole = "bow 1 0 1 doubt 5;deed 2 0 to 1 coins 5;says 3 0 is 1;rule on;believe off;vow 4 2 to 3";
        // Cut behind a token behind which none need follow, the text is whole.
        boolean[] isWhole = new boolean[whole.length() + 1];
        for (String end : new String[] {"0 1", "doubt 5", "to 1", "coins 5", "is 1", "rule on", "believe off", "to 3"}) {
            isWhole[whole.indexOf(end) + end.length()] = true;
        }
        for (int length = 0; length < whole.length(); length++) {
            String text = whole.substring(0, length);
            if (!isWhole[length] && isAtEndOfToken(whole, length)) {
                fault(text + "|");
                fault(text + "  |");
            }
        }
        Edge.taken("36: " + whole, 6, TextEdgeTest::much, x -> Due.carnival(x, whole));
    }

    private static boolean isAtEndOfToken(String text, int length) {
        char next = text.charAt(length);
        char last = length == 0 ? ' ' : text.charAt(length - 1);
        return last != ' ' && (next == ' ' || next == ';' || last == ';');
    }

    /** A byte that begins no TOKEN. */
    private static void bytesThatBeginNoToken() {
        int[] strange = {0, 9, 10, 31, 33, 47, 58, 60, 64, 65, 90, 96, 123, 127, 128, 160, 223, 255};
        for (int b : strange) {
            char c = (char) b;
            fault("|" + c);
            fault("|" + c + "rule on");
            fault("rule on|" + c);
            fault("rule |" + c + "on");
            fault("bow 1 0 1|" + c);
            fault("bow 1|" + c + "0 0 1");
            fault("bow|" + c + " 1 0 1");
        }
    }

    /** Blanks (byte 32) may stand between. */
    private static void blanks() {
        taken("bow1 0 1", 1, x -> x.bow(1, 0, 1, 10));
        taken("bow 1 0 1doubt5", 1, x -> x.bow(1, 0, 1, 5));
        taken("bow   1   0   1   doubt   5", 1, x -> x.bow(1, 0, 1, 5));
        taken("bow 1 0 1 ; rule on", 2, x -> {
            x.bow(1, 0, 1, 10);
            x.let(0, true);
        });
        taken("vow2 0to1coins9;says3 0not1", 2, x -> {
            x.deed(4, 2, 0, 1, 9);
            x.says(3, 0, 1, false);
        });
        fault("bow 1 01|");
        fault("bow |101 0 1");
        fault("|ruleon");
        fault("|ru le on");
        fault("rule |o n");
        fault("bow 1 0 1 |dou bt 5");
    }

    /** Another WORD; WORDS are as long as can be. */
    private static void words() {
        String[] items = {"bow", "says", "rule", "believe", "deed", "debt", "duel", "kiss", "vow", "theft"};
        for (String word : items) {
            fault("|" + word.substring(1));
            fault("|" + word.substring(0, word.length() - 1));
            fault("|" + word + "s");
            fault("|" + word.toUpperCase());
            fault("rule on;|" + word + "x 1 0 1");
            fault(word + " |" + word);
        }
        for (String word : new String[] {"doubt", "to", "coins", "is", "not", "on", "off", "x"}) {
            fault("|" + word);
            fault("|" + word + " 1 0 1");
        }
        fault("bow 1 0 1 |doubts 5");
        fault("bow 1 0 1 |doub 5");
        fault("bow 1 0 1 |coins 5");
        fault("deed 1 0 to 1 |doubt 5");
        fault("deed 1 0 to 1 |coin 5");
        fault("deed 1 0 |t 1");
        fault("deed 1 0 |is 1");
        fault("says 1 0 |to 1");
        fault("says 1 0 |isnot 1");
        fault("says 1 0 is |not 1");
        fault("rule |is");
        fault("rule |offon");
        fault("believe |ons");
    }

    /** ITEM { ; ITEM }. */
    private static void signs() {
        fault("|;");
        fault("|;rule on");
        fault("rule on;|");
        fault("rule on; |");
        fault("rule on;|;rule on");
        fault("rule on |rule on");
        fault("rule on |5");
        fault("bow 1 0 1 |bow 1 0 1");
        fault("bow 1 0 1 |5");
        fault("bow 1 0 1 doubt 5 |doubt 5");
        fault("deed 1 0 to 1 |2");
        fault("deed 1 0 to 1 coins 5 |coins 5");
        fault("says 1 0 is 1 |is");
        fault("bow|;1 0 1");
        fault("bow 1|;0 1");
        fault("bow 1 0|;1");
        fault("bow 1 0 1 doubt|;5");
        fault("deed 1 0|;to 1");
        fault("deed 1 0 to|;1");
        fault("deed 1 0 to 1 coins|;5");
        fault("says 1 0|;is 1");
        fault("says 1 0 is|;1");
        fault("rule|;on");
    }

    /** HOURS 0 to 99. */
    private static void hours() {
        taken("bow 0 0 1", 1, x -> x.bow(0, 0, 1, 10));
        taken("bow 99 0 1", 1, x -> x.bow(99, 0, 1, 10));
        taken("kiss 0 0 to 1", 1, x -> x.deed(3, 0, 0, 1, 10));
        taken("kiss 99 0 to 1", 1, x -> x.deed(3, 99, 0, 1, 10));
        taken("says 0 0 is 1", 1, x -> x.says(0, 0, 1, true));
        taken("says 99 0 is 1", 1, x -> x.says(99, 0, 1, true));
        for (String first : new String[] {"bow", "kiss", "says"}) {
            fault(first + " |100 0 1");
            fault(first + " |999 0 1");
            fault(first + " |-1 0 1");
        }
    }

    /** MASKS 0 to N less 1, two unlike ones. */
    private static void masks() {
        taken("bow 1 4 0", 1, x -> x.bow(1, 4, 0, 10));
        taken("bow 1 0 4", 1, x -> x.bow(1, 0, 4, 10));
        taken("duel 1 4 to 0", 1, x -> x.deed(2, 1, 4, 0, 10));
        taken("duel 1 0 to 4", 1, x -> x.deed(2, 1, 0, 4, 10));
        taken("says 1 4 is 0", 1, x -> x.says(1, 4, 0, true));
        fault("bow 1 |5 0");
        fault("bow 1 0 |5");
        fault("bow 1 0 |0");
        fault("bow 1 4 |4");
        fault("bow 1 4 |04");
        fault("duel 1 |5 to 0");
        fault("duel 1 0 to |5");
        fault("duel 1 0 to |0");
        fault("duel 1 4 to |4");
        fault("duel 1 4 to |004");
        fault("says 1 |5 is 0");
        fault("bow 1 |5 5");
        Edge.Told two = x -> x.people(2);
        fault(two, "bow 1 0 |2");
        fault(two, "bow 1 |2 0");
        fault(two, "deed 1 0 to |2");
        fault(two, "says 1 0 is |2");
        Edge.taken("36: two masks", 1, two, x -> Due.carnival(x, "bow 1 0 1"));
        Edge.Told eight = x -> x.people(8);
        fault(eight, "bow 1 0 |8");
        fault(eight, "theft 1 |8 to 0");
        fault(eight, "says 1 0 is |8");
        Edge.taken("36: eight masks", 3, eight, x -> Due.carnival(x, "bow 1 0 7;theft 1 7 to 6;says 1 7 is 7"));
    }

    /** Perhaps doubt and a NUMBER (0 to 9 TENTHS). */
    private static void tenths() {
        taken("bow 1 0 1 doubt 0", 1, x -> x.bow(1, 0, 1, 0));
        taken("bow 1 0 1 doubt 9", 1, x -> x.bow(1, 0, 1, 9));
        taken("bow 1 0 1", 1, x -> x.bow(1, 0, 1, 10));
        fault("bow 1 0 1 doubt |10");
        fault("bow 1 0 1 doubt |x");
        fault("bow 1 0 1 doubt |doubt");
    }

    /** Perhaps coins and a NUMBER (0 to 999; 10 without). */
    private static void coins() {
        String[] kinds = {"deed", "debt", "duel", "kiss", "vow", "theft"};
        for (int kind = 0; kind < 6; kind++) {
            int k = kind;
            taken(kinds[k] + " 1 0 to 1", 1, x -> x.deed(k, 1, 0, 1, 10));
            taken(kinds[k] + " 1 0 to 1 coins 0", 1, x -> x.deed(k, 1, 0, 1, 0));
            taken(kinds[k] + " 1 0 to 1 coins 999", 1, x -> x.deed(k, 1, 0, 1, 999));
            fault(kinds[k] + " 1 0 to 1 coins |1000");
        }
        fault("deed 1 0 to 1 coins |x");
        fault("deed 1 0 to 1 coins |coins");
    }

    /** is or not, a NUMBER (PERSON). */
    private static void persons() {
        taken("says 1 0 is 0", 1, x -> x.says(1, 0, 0, true));
        taken("says 1 0 not 4", 1, x -> x.says(1, 0, 4, false));
        taken("says 1 4 is 4", 1, x -> x.says(1, 4, 4, true));
        fault("says 1 0 is |5");
        fault("says 1 0 not |5");
        fault("says 1 0 |0");
    }

    /** rule, and on or off; believe, and on or off. */
    private static void switches() {
        taken("rule on", 1, x -> x.let(0, true));
        taken("believe on", 1, x -> x.let(1, true));
        taken("rule off", 1, Given::nothing);
        taken("believe off", 1, Given::nothing);
        taken("rule on;rule on", 2, x -> x.let(0, true));
        taken("rule on;rule off", 2, Given::nothing);
        taken("believe on;rule on;believe off", 3, x -> x.let(0, true));
        fault(x -> x.let(0, true), "rule off;|");
        fault(x -> x.let(1, true), "believe off;|x");
        Edge.alike("36: off again", Given::nothing, x -> {
            x.let(0, true);
            x.let(1, true);
            Due.carnival(x, "rule off;believe off");
        });
    }

    /** NUMBERS (digits, 999 at most), as long as can be: one beyond is at fault where it begins. */
    private static void numbers() {
        taken("bow 007 00 0001", 1, x -> x.bow(7, 0, 1, 10));
        taken("deed 1 0 to 1 coins 00000000000000000999", 1, x -> x.deed(0, 1, 0, 1, 999));
        for (String wrong : new String[] {"1000", "9999", "2147483648", "4294967296", "4294967297", "18446744073709551616"}) {
            fault("bow |" + wrong + " 0 1");
            fault("bow 1 |" + wrong + " 1");
            fault("bow 1 0 |" + wrong);
            fault("bow 1 0 1 doubt |" + wrong);
            fault("deed 1 0 to 1 coins |" + wrong);
            fault("says 1 0 is |" + wrong);
        }
        fault("|1");
        fault("|bo1");
        fault("deed 1 0 |2 to 1");
        fault("says 1 0 is 1 |2");
    }

    /** THE TAPE has at most 120 bytes; a text of so many is read whole. */
    private static void longestTape() {
        StringBuilder text = new StringBuilder("rule on");
        for (int i = 0; i < 14; i++) {
            text.append(i == 13 ? ";believe on" : ";rule on");
        }
        Due.is("36: its length", 122, text.length());
        String most = text.substring(0, 111) + ";rule on";
        Edge.taken("36: fifteen items", 15, TextEdgeTest::much, x -> Due.carnival(x, most));
        Edge.taken("36: fifteen items and a blank", 15, TextEdgeTest::much, x -> Due.carnival(x, most + " "));
        fault(most + ";|");
        Edge.taken("36: an item at the very end", 1, TextEdgeTest::much, x -> Due.carnival(x, " ".repeat(113) + "rule on"));
        fault(" ".repeat(119) + "|x");
        fault(" ".repeat(120) + "|");
        fault("|" + "x".repeat(120));
        fault("|" + "9".repeat(120));
        fault("bow |" + "9".repeat(116));
    }

    /** bow for a 21st. */
    private static void bowForA21st() {
        fault(Given::twentyBows, "|bow 1 0 1");
        fault(Given::twentyBows, "|bow");
        fault(Given::twentyBows, "rule on; |bow 1 0 1 doubt 5");
        Edge.Told eighteen = x -> {
            for (int i = 0; i < 18; i++) {
                x.bow(i, 0, 1, 10);
            }
        };
        fault(eighteen, "bow 1 0 1;bow 1 0 1;|bow 1 0 1");
        Edge.taken("36: a 19th and a 20th", 2, eighteen, x -> Due.carnival(x, "bow 1 0 1;bow 1 0 1 doubt 5"));
        Edge.taken("36: others come with twenty bows", 2, Given::twentyBows, x -> Due.carnival(x, "rule on;says 1 0 is 1"));
    }

    /** doubt for a 7th DOUBTED one. */
    private static void doubtForA7th() {
        fault(Given::sixDoubted, "bow 1 0 1 |doubt 5");
        fault(Given::sixDoubted, "bow 1 0 1 |doubt");
        fault(Given::sixDoubted, "bow 1 0 1 |doubt 10");
        Edge.taken("36: seen it comes", 1, Given::sixDoubted, x -> Due.carnival(x, "bow 1 0 1"));
        Edge.Told five = x -> {
            Given.sixDoubted(x);
            x.doubt(3, 10);
        };
        Edge.taken("36: a 6th", 1, five, x -> Due.carnival(x, "bow 1 0 1 doubt 0"));
        fault(five, "bow 1 0 1 doubt 0;bow 1 0 1 |doubt 0");
        fault("bow 1 0 1 doubt 0;bow 1 0 1 doubt 0;bow 1 0 1 doubt 0;bow 1 0 1 |doubt 0");
    }

    /** The name of a KIND for a 13th DEED. */
    private static void kindForA13th() {
        Edge.Told eleven = x -> {
            for (int i = 0; i < 11; i++) {
                x.deed(0, 0, 0, 1, 0);
            }
        };
        for (String kind : new String[] {"deed", "debt", "duel", "kiss", "vow", "theft"}) {
            fault(Given::twelveDeeds, "|" + kind + " 1 0 to 1");
            fault(Given::twelveDeeds, "bow 1 0 1;|" + kind);
            fault(eleven, "vow 1 0 to 1; |" + kind + " 1 0 to 1");
            Edge.taken("36: a 12th, " + kind, 1, eleven, x -> Due.carnival(x, kind + " 1 0 to 1"));
        }
    }

    /** says for an 11th. */
    private static void saysForAn11th() {
        fault(Given::tenSayings, "|says 1 0 is 1");
        fault(Given::tenSayings, "rule on;|says");
        Edge.Told nine = x -> {
            for (int i = 0; i < 9; i++) {
                x.says(0, 0, 0, true);
            }
        };
        fault(nine, "says 1 0 is 1;|says 1 0 is 1");
        Edge.taken("36: a 10th", 1, nine, x -> Due.carnival(x, "says 1 0 is 1"));
    }

    /** ITEMS come to what there is, and THE TAPE is empty then: how many ITEMS. */
    private static void itemsComeToWhatThereIs() {
        taken("bow 3 0 4 doubt 2;theft 6 1 to 3 coins 77;says 6 3 not 3;believe on;bow 3 1 2", 5, x -> {
            x.bow(3, 0, 4, 2);
            x.deed(5, 6, 1, 3, 77);
            x.says(6, 3, 3, false);
            x.let(1, true);
            x.bow(3, 1, 2, 10);
        });
        Edge.taken("36: what was asked ahead is asked anew", 16, x -> {
            much(x);
            x.nights();
            Due.carnival(x, "bow 99 3 4 doubt 5;rule off;bow 98 1 2 doubt 0");
        }, x -> x.nights());
        Edge.taken("36: the tape is empty", 0, x -> {
            much(x);
            Due.carnival(x, "rule on");
        }, x -> x.count(5));
        Edge.taken("36: the image stays as it was", 4, x -> {
            much(x);
            Due.carnival(x, "bow 3 0 4;bow 3 0 4;rule on");
            x.undo();
        }, x -> x.nights());
        Edge.taken("36: behind a fault the next text is read from its beginning", 1, x -> {
            much(x);
            Due.carnival(x, "bow 1 0 1;bow");
        }, x -> Due.carnival(x, "rule on"));
    }
}
