/** What the tests share: findings, the count of wrong answers, texts for the tape. */
final class Due {
    static final long BEYOND = -1000000001L;
    static final long FULL = -1000000002L;
    static final long KIND = -1000000003L;
    static final long NONE = -1000000004L;
    static final long STATE = -1000000005L;
    static final long MISSING = -1000000006L;
    static final long SIZE = -1000000007L;

    private static int wrong = 0;
    private static int asked = 0;

    private Due() {
    }

    static void is(String what, long want, long got) {
        asked++;
        if (want != got) {
            wrong++;
            System.out.println(what + ": answered " + got + ", due is " + want);
        }
    }

    static void holds(String what, boolean so) {
        is(what, 1, so ? 1 : 0);
    }

    /** Puts a text on the tape, as many bytes a call as can be. */
    static void feed(MaskBows x, String text) {
        for (int at = 0; at < text.length(); at += 4) {
            int n = Math.min(4, text.length() - at);
            int bytes = 0;
            for (int i = 0; i < n; i++) {
                bytes = (bytes << 8) | (text.charAt(at + i) & 255);
            }
            x.feed(bytes, n);
        }
    }

    static int carnival(MaskBows x, String text) {
        x.wipe();
        feed(x, text);
        return x.carnival();
    }

    static void end(String test) {
        System.out.println(test + ": " + asked + " asked, " + wrong + " wrong");
        if (wrong != 0) {
            System.exit(1);
        }
    }
}
