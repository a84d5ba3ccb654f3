import java.util.List;

/** Holds one call on an object of which something was told, and what the call leaves as it was. */
final class Edge {
    interface Told {
        void to(MaskBows x);
    }

    interface Call {
        long on(MaskBows x);
    }

    private Edge() {
    }

    static MaskBows made(Told told) {
        MaskBows x = new MaskBows();
        told.to(x);
        return x;
    }

    /** The call answers the finding, status() counts it once, and all else is as if it had not been made. */
    static void refused(String what, long finding, Told told, Call call) {
        MaskBows x = made(told);
        long[] before = counted(x);
        Due.is(what, finding, call.on(x));
        before[0]++;
        before[1 + (int) (Due.BEYOND - finding)]++;
        dueCounted(what, before, x);
        dueAlike(what, made(told), x);
    }

    /** The call answers this, and it is no finding. */
    static void taken(String what, long want, Told told, Call call) {
        MaskBows x = made(told);
        long[] before = counted(x);
        Due.is(what, want, call.on(x));
        dueCounted(what, before, x);
    }

    /** The call answers this, it is no finding, and all is as if it had not been made. */
    static void idle(String what, long want, Told told, Call call) {
        taken(what, want, told, call);
        MaskBows x = made(told);
        call.on(x);
        dueAlike(what, made(told), x);
    }

    /** Told so or so, the objects answer all the same. */
    static void alike(String what, Told one, Told other) {
        dueAlike(what, made(one), made(other));
    }

    private static long[] counted(MaskBows x) {
        long[] counted = new long[8];
        for (int which = -1; which < 7; which++) {
            counted[which + 1] = x.status(which);
        }
        return counted;
    }

    private static void dueCounted(String what, long[] want, MaskBows x) {
        long[] got = counted(x);
        for (int which = -1; which < 7; which++) {
            Due.is(what + ": status(" + which + ") behind it", want[which + 1], got[which + 1]);
        }
    }

    private static void dueAlike(String what, MaskBows want, MaskBows got) {
        List<String> due = State.of(want);
        List<String> lines = State.of(got);
        for (int i = 0; i < Math.max(due.size(), lines.size()); i++) {
            String one = i < due.size() ? due.get(i) : "nothing";
            String other = i < lines.size() ? lines.get(i) : "nothing";
            Due.holds(what + " leaves " + other + ", due is " + one, one.equals(other));
        }
    }
}
