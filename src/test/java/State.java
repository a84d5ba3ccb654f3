import java.util.ArrayList;
import java.util.Arrays;
import java.util.List;

/**
 * All that an object tells but status(), as lines. To ask it changes the object (a number of a sheet
 * is read by writing, the tape by reading it, the image by undo), so that it is asked of once only.
 */
final class State {
    private static final int MOST_CALLS = 350;

    private final MaskBows x;
    private final List<String> lines = new ArrayList<>();
    private int calls = 0;

    private State(MaskBows x) {
        this.x = x;
    }

    static List<String> of(MaskBows x) {
        State state = new State(x);
        state.counts("now");
        state.rows();
        state.nights();
        for (int s = 0; s < 4; s++) {
            state.sheet(s);
        }
        state.line("the tape's items, the switches", x.carnival(), x.let(0, true), x.let(1, true));
        state.counts("with the tape's items");
        state.line("undo()", x.undo());
        state.counts("kept");
        state.line("kept nights", x.nights(), x.all(), x.likeliest(), x.let(0, true), x.let(1, true));
        Due.holds("within 512 calls, asked " + state.calls, state.calls <= MOST_CALLS);
        return state.lines;
    }

    private void line(String what, long... answers) {
        lines.add(what + " " + Arrays.toString(answers));
        calls += answers.length;
    }

    private void counts(String when) {
        line("counts, " + when, x.count(0), x.count(1), x.count(2), x.count(3), x.count(4), x.count(5));
    }

    private void rows() {
        for (int i = 0; i < x.count(1); i++) {
            line("bow " + i, x.bowOf(i, 0), x.bowOf(i, 1), x.bowOf(i, 2), x.bowOf(i, 3));
        }
        for (int i = 0; i < x.count(3); i++) {
            line("deed " + i, x.deedOf(i, 0), x.deedOf(i, 1), x.deedOf(i, 2), x.deedOf(i, 3), x.deedOf(i, 4));
        }
        for (int i = 0; i < x.count(4); i++) {
            line("saying " + i, x.sayingOf(i, 0), x.sayingOf(i, 1), x.sayingOf(i, 2), x.sayingOf(i, 3));
        }
    }

    private void nights() {
        line("nights", x.nights(), x.all(), x.likeliest(), x.lie(), x.ask());
        line("doubts and home", x.witnesses(), x.unsure(), x.home());
        for (int p = 0; p < x.count(0); p++) {
            line("mask or person " + p, x.may(p, 0), x.may(p, 5), x.may(p, 99), x.owes(p), x.met(p));
        }
    }

    /** 70000 comes back cut by as many bits as the sheet has. */
    private void sheet(int s) {
        for (int i = 0; i < 41; i++) {
            long v = x.write(s, i, 70000);
            line("number " + i + " of sheet " + s, v);
            if (v == Due.BEYOND || v == Due.MISSING) {
                break;
            }
        }
        line("bits of sheet " + s, x.write(s, 0, 0));
    }
}
