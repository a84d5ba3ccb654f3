import java.util.Random;

/**
 * Runs of up to 512 calls, the same ones each time, held against PlainCarnival. Calls and arguments
 * are drawn by a seeded source: mostly such as may be, some just beyond, a few wild ones.
 */
public final class ModelTest {
    private static final int CALLS = 512;
    private static final int[] WILD = {Integer.MIN_VALUE, Integer.MAX_VALUE, -1, 1000, 100, 256, 1 << 30, -1000000001};
    private static final String[] WORDS = {
        "bow", "doubt", "deed", "debt", "duel", "kiss", "vow", "theft", "to", "coins", "says", "is", "not", "rule",
        "believe", "on", "off", "bo", "bows", "x", ";", ";;", "@", "A", "1000", "007", "99", "100", "0", "1", "8",
    };

    private final Random random;
    private final MaskBows x = new MaskBows();
    private final PlainCarnival plain = new PlainCarnival();
    private final int people;
    private final boolean isBusy;
    private final String name;
    private int call = 0;

    private ModelTest(int seed) {
        random = new Random(seed);
        name = "seed " + seed;
        people = 2 + random.nextInt(7);
        isBusy = random.nextInt(3) > 0;
    }

    public static void main(String[] args) {
        int runs = args.length > 0 ? Integer.parseInt(args[0]) : 80;
        for (int seed = 1; seed <= runs; seed++) {
            new ModelTest(seed).run();
        }
        Due.end("ModelTest");
    }

    private void run() {
        due("people(" + people + ")", plain.people(people), x.people(people));
        begin();
        while (call < CALLS) {
            if (random.nextInt(isBusy ? 4 : 8) == 0) {
                change();
            } else {
                askOne(random.nextInt(24));
            }
        }
    }

    /** Some runs begin with much told, lest most questions find nothing. */
    private void begin() {
        int much = random.nextInt(12);
        for (int i = 0; i < much; i++) {
            changeBows();
            changeBows();
            changeDeeds();
            changeSheets(0);
            changeSheets(4);
        }
        if (much > 6) {
            due("image()", plain.image(), x.image());
        }
    }

    private void due(String what, long want, long got) {
        call++;
        Due.is(name + ", call " + call + ", " + what, want, got);
    }

    private int below(int end) {
        int dice = random.nextInt(80);
        if (dice == 0) {
            return WILD[random.nextInt(WILD.length)];
        }
        if (dice == 1) {
            return -1;
        }
        return dice == 2 ? end : random.nextInt(Math.max(1, end));
    }

    /** Few hours are used much, so that things meet at one hour. */
    private int hour() {
        return random.nextBoolean() ? below(100) : below(6);
    }

    private int person() {
        return below((int) plain.count(0));
    }

    private int personUnlike(int one) {
        int other = person();
        return other == one && random.nextInt(10) > 0 ? person() : other;
    }

    private int bowNumber() {
        return below((int) plain.count(1));
    }

    private int deedNumber() {
        return below((int) plain.count(3));
    }

    private int tenths() {
        return random.nextInt(3) == 0 ? 10 : below(11);
    }

    private void change() {
        int dice = random.nextInt(100);
        if (dice < 24) {
            changeBows();
        } else if (dice < 40) {
            changeDeeds();
        } else if (dice < 52) {
            changeSayings();
        } else if (dice < 57) {
            tellText();
        } else if (dice < 88) {
            changeSheets(random.nextInt(8));
        } else {
            changeImage(random.nextInt(12));
        }
    }

    private void changeBows() {
        if (random.nextInt(3) > 0) {
            int hour = hour();
            int one = person();
            int other = personUnlike(one);
            int tenths = tenths();
            String what = "bow(" + hour + ", " + one + ", " + other + ", " + tenths + ")";
            due(what, plain.bow(hour, one, other, tenths), x.bow(hour, one, other, tenths));
        } else {
            int bow = bowNumber();
            int v = tenths();
            due("doubt(" + bow + ", " + v + ")", plain.doubt(bow, v), x.doubt(bow, v));
        }
    }

    private void changeDeeds() {
        int kind = below(6);
        if (random.nextInt(3) > 0) {
            int hour = hour();
            int mask = person();
            int other = personUnlike(mask);
            int coins = below(1000);
            String what = "deed(" + kind + ", " + hour + ", " + mask + ", " + other + ", " + coins + ")";
            due(what, plain.deed(kind, hour, mask, other, coins), x.deed(kind, hour, mask, other, coins));
        } else {
            int deed = deedNumber();
            due("turn(" + deed + ", " + kind + ")", plain.turn(deed, kind), x.turn(deed, kind));
        }
    }

    private void changeSayings() {
        boolean is = random.nextInt(3) == 0;
        if (random.nextInt(3) > 0) {
            int what = below(2);
            due("let(" + what + ", " + is + ")", plain.let(what, is), x.let(what, is));
        } else {
            int hour = hour();
            int mask = person();
            int person = person();
            String what = "says(" + hour + ", " + mask + ", " + person + ", " + is + ")";
            due(what, plain.says(hour, mask, person, is), x.says(hour, mask, person, is));
        }
    }

    private void tellText() {
        if (random.nextInt(8) == 0) {
            due("wipe()", plain.wipe(), x.wipe());
        }
        StringBuilder text = new StringBuilder(item());
        while (random.nextInt(3) > 0 && text.length() < 118) {
            text.append(random.nextBoolean() ? ";" : " ; ").append(item());
        }
        if (random.nextInt(3) == 0) {
            text.insert(random.nextInt(text.length() + 1), ' ' + WORDS[random.nextInt(WORDS.length)] + ' ');
        }
        if (random.nextInt(6) == 0) {
            text.setCharAt(random.nextInt(text.length()), (char) random.nextInt(256));
        }
        if (random.nextInt(6) == 0) {
            text.setLength(random.nextInt(text.length() + 1));
        }
        feed(text.toString());
        due("carnival() of " + text, plain.carnival(), x.carnival());
    }

    private String item() {
        switch (random.nextInt(8)) {
            case 0:
            case 1:
                return "bow " + hour() + " " + pair(" ");
            case 2:
                return "bow " + hour() + " " + pair("  ") + " doubt " + below(10);
            case 3:
                return "says " + hour() + " " + person() + (random.nextBoolean() ? " is " : "not") + person();
            case 4:
                return "rule " + (random.nextInt(4) == 0 ? "on" : "off");
            case 5:
                return "believe " + (random.nextInt(4) == 0 ? "on" : "off");
            case 6:
                return WORDS[2 + random.nextInt(6)] + hour() + " " + pair("to");
            default:
                return WORDS[2 + random.nextInt(6)] + " " + hour() + " " + pair(" to ") + " coins " + below(1000);
        }
    }

    private String pair(String between) {
        int one = person();
        return one + between + personUnlike(one);
    }

    private void feed(String text) {
        for (int at = 0; at < text.length(); ) {
            int n = Math.min(1 + random.nextInt(4), text.length() - at);
            int bytes = random.nextInt();
            for (int i = 0; i < n; i++) {
                bytes = (bytes << 8) | text.charAt(at + i);
            }
            due("feed(" + bytes + ", " + n + ")", plain.feed(bytes, n), x.feed(bytes, n));
            at += n;
        }
        if (random.nextInt(10) == 0) {
            int n = below(5);
            due("feed(32, " + n + ")", plain.feed(32, n), x.feed(32, n));
        }
    }

    private int bits() {
        int[] bits = {8, 8, 8, 8, 16, 16, 64, 64, 8, 0, 32};
        return bits[random.nextInt(bits.length)];
    }

    private void changeSheets(int dice) {
        int s = below(4);
        if (dice == 0) {
            int bits = bits();
            int n = random.nextBoolean() ? below(41) : below(10);
            due("sheet(" + s + ", " + bits + ", " + n + ")", plain.sheet(s, bits, n), x.sheet(s, bits, n));
        } else if (dice == 1) {
            int t = below(4);
            int from = below(12);
            int to = below(12);
            int n = below(12);
            String what = "copy(" + s + ", " + from + ", " + t + ", " + to + ", " + n + ")";
            due(what, plain.copy(s, from, t, to, n), x.copy(s, from, t, to, n));
        } else if (dice == 2 || dice == 6) {
            due("lays(" + s + ")", plain.lays(s), x.lays(s));
        } else if (dice == 3 || dice == 7) {
            int hour = hour();
            due("ledger(" + s + ", " + hour + ")", plain.ledger(s, hour), x.ledger(s, hour));
        } else {
            int i = below(10);
            long v = random.nextInt(5) == 0 ? random.nextLong() : below(11);
            due("write(" + s + ", " + i + ", " + v + ")", plain.write(s, i, v), x.write(s, i, v));
        }
    }

    private void changeImage(int dice) {
        if (dice < 5) {
            due("image()", plain.image(), x.image());
        } else if (dice < 10) {
            due("undo()", plain.undo(), x.undo());
        } else if (dice == 10) {
            due("tear()", plain.tear(), x.tear());
        } else {
            int n = below(10);
            due("people(" + n + ")", plain.people(n), x.people(n));
        }
    }

    private void askOne(int dice) {
        if (dice < 9) {
            askOfNights(dice);
        } else if (dice < 16) {
            askOfDeeds(dice - 9);
        } else {
            askTheRest(dice - 16);
        }
    }

    private void askOfNights(int dice) {
        int hour = hour();
        int p = person();
        int q = person();
        switch (dice) {
            case 0 -> due("nights()", plain.nights(), x.nights());
            case 1 -> due("all()", plain.all(), x.all());
            case 2 -> due("likeliest()", plain.likeliest(), x.likeliest());
            case 3 -> due("wore(" + p + ", " + hour + ")", plain.wore(p, hour), x.wore(p, hour));
            case 4 -> due("may(" + p + ", " + hour + ")", plain.may(p, hour), x.may(p, hour));
            case 5 -> due("odds(" + p + ", " + q + ", " + hour + ")", plain.odds(p, q, hour), x.odds(p, q, hour));
            case 6 -> due("behind(" + p + ", " + hour + ")", plain.behind(p, hour), x.behind(p, hour));
            case 7 -> due("met(" + p + ")", plain.met(p), x.met(p));
            default -> due("lie()", plain.lie(), x.lie());
        }
    }

    private void askOfDeeds(int dice) {
        int d = deedNumber();
        int e = random.nextBoolean() ? deedNumber() : d + 1;
        int p = person();
        int q = personUnlike(p);
        int what = below(dice == 0 ? 7 : dice == 1 ? 6 : 2);
        switch (dice) {
            case 0 -> due("deedOf(" + d + ", " + what + ")", plain.deedOf(d, what), x.deedOf(d, what));
            case 1 -> due("as(" + d + ", " + what + ")", plain.as(d, what), x.as(d, what));
            case 2 -> due("who(" + d + ", " + what + ")", plain.who(d, what), x.who(d, what));
            case 3 -> due("same(" + d + ", " + e + ")", plain.same(d, e), x.same(d, e));
            case 4 -> due("owes(" + p + ")", plain.owes(p), x.owes(p));
            case 5 -> due("owesTo(" + p + ", " + q + ")", plain.owesTo(p, q), x.owesTo(p, q));
            default -> due("bound(" + p + ", " + q + ")", plain.bound(p, q), x.bound(p, q));
        }
    }

    private void askTheRest(int dice) {
        int hour = hour();
        int p = person();
        switch (dice) {
            case 0 -> due("ask()", plain.ask(), x.ask());
            case 1 -> due("witnesses()", plain.witnesses(), x.witnesses());
            case 2 -> due("unsure()", plain.unsure(), x.unsure());
            case 3 -> askOfRows(below(4), bowNumber(), below((int) plain.count(4)));
            case 4 -> {
                int i = below(8);
                due("homeBow(" + i + ")", plain.homeBow(i), x.homeBow(i));
                due("home()", plain.home(), x.home());
            }
            case 5 -> due("atHome(" + hour + ")", plain.atHome(hour), x.atHome(hour));
            case 6 -> due("since(" + p + ")", plain.since(p), x.since(p));
            default -> {
                int s = below(4);
                due("read(" + s + ", " + hour + ")", plain.read(s, hour), x.read(s, hour));
            }
        }
    }

    private void askOfRows(int what, int bow, int saying) {
        due("bowOf(" + bow + ", " + what + ")", plain.bowOf(bow, what), x.bowOf(bow, what));
        due("sayingOf(" + saying + ", " + what + ")", plain.sayingOf(saying, what), x.sayingOf(saying, what));
        int which = below(7);
        due("status(" + which + ")", plain.status(which), x.status(which));
        due("status(-1)", plain.status(-1), x.status(-1));
        int number = below(6);
        due("count(" + number + ")", plain.count(number), x.count(number));
    }
}
