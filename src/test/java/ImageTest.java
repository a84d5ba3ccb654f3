/** Promises 43 to 47: images, counts, status. */
public final class ImageTest {
    public static void main(String[] args) {
        imageAndUndo();
        kept();
        notKept();
        tear();
        count();
        status();
        Due.end("ImageTest");
    }

    private static void imageAndUndo() {
        MaskBows x = new MaskBows();
        Due.is("44: nothing is kept", Due.NONE, x.undo());
        x.people(5);
        x.bow(3, 0, 4, 5);
        x.deed(4, 3, 0, 4, 12);
        x.says(3, 0, 4, true);
        x.let(0, true);
        x.let(1, true);
        Due.is("43: image()", 1, x.image());
        x.doubt(0, 9);
        x.bow(3, 1, 2, 10);
        x.turn(0, 1);
        x.deed(0, 0, 0, 1, 0);
        x.says(3, 0, 0, true);
        x.let(0, false);
        x.let(1, false);
        Due.is("43: two nights", 2, x.nights());
        Due.is("44: undo()", 1, x.undo());
        Due.is("44: nights", 1, x.nights());
        dueKept(x);
        x.doubt(0, 1);
        Due.is("44: it stays", 1, x.undo());
        dueKept(x);
        x.bow(9, 1, 2, 10);
        Due.is("43: a later one", 1, x.image());
        x.bow(9, 1, 2, 10);
        Due.is("44: the latest", 2, x.undo());
        Due.is("44: the latest again", 2, x.undo());
    }

    private static void dueKept(MaskBows x) {
        int[] counts = {5, 1, 1, 1, 1};
        for (int what = 0; what < counts.length; what++) {
            Due.is("44: count(" + what + ")", counts[what], x.count(what));
        }
        Due.is("44: tenths", 5, x.bowOf(0, 3));
        Due.is("44: kind", 4, x.deedOf(0, 0));
        Due.is("44: coins", 12, x.deedOf(0, 4));
        Due.is("44: saying", 4, x.sayingOf(0, 2));
        Due.is("44: rule", 0, x.let(0, true));
        Due.is("44: believed", 0, x.let(1, true));
    }

    private static void kept() {
        MaskBows x = new MaskBows();
        x.people(7);
        x.image();
        x.people(3);
        x.bow(0, 0, 1, 10);
        Due.is("44: N too", 0, x.undo());
        Due.is("44: N", 7, x.count(0));
        Due.is("44: who is there", 6, x.wore(6, 0));
    }

    private static void notKept() {
        MaskBows x = new MaskBows();
        x.sheet(0, 8, 1);
        Due.feed(x, "rule on");
        x.image();
        x.write(0, 0, 5);
        x.sheet(1, 8, 2);
        x.feed(32, 1);
        x.bow(0, 0, 0, 0);
        x.undo();
        Due.is("43: the tape isn't kept", 8, x.count(5));
        Due.is("43: sheets aren't kept", 5, x.write(0, 0, 0));
        Due.is("43: nor that they are there", 0, x.write(1, 1, 0));
        Due.is("47: nor status", 1, x.status(-1));
    }

    private static void tear() {
        MaskBows x = new MaskBows();
        Due.is("45: nothing was", 0, x.tear());
        x.image();
        Due.is("45: something was", 1, x.tear());
        Due.is("45: no more", 0, x.tear());
        Due.is("45: nothing is kept", Due.NONE, x.undo());
        x.image();
        x.bow(0, 0, 1, 10);
        Due.is("45: kept anew", 0, x.undo());
    }

    private static void count() {
        MaskBows x = new MaskBows();
        x.people(6);
        x.bow(0, 0, 1, 10);
        x.bow(0, 0, 1, 10);
        x.bow(0, 0, 1, 0);
        for (int i = 0; i < 4; i++) {
            x.deed(0, 0, 0, 1, 0);
        }
        for (int i = 0; i < 5; i++) {
            x.says(0, 0, 0, true);
        }
        x.feed(0, 2);
        int[] counts = {6, 3, 1, 4, 5, 2};
        for (int what = 0; what < 6; what++) {
            Due.is("46: count(" + what + ")", counts[what], x.count(what));
        }
        Due.is("46: what 6", Due.BEYOND, x.count(6));
        Due.is("46: what -1", Due.BEYOND, x.count(-1));
    }

    private static void status() {
        MaskBows x = new MaskBows();
        for (int which = -1; which < 7; which++) {
            Due.is("47: status(" + which + ") at first", 0, x.status(which));
        }
        Due.is("47: which 7", Due.BEYOND, x.status(7));
        Due.is("47: which -2", Due.BEYOND, x.status(-2));
        Due.is("47: counted from then on", 2, x.status(0));
        for (int i = 0; i < 120; i += 4) {
            x.feed(0, 4);
        }
        x.feed(0, 1);
        x.carnival();
        x.deed(0, 0, 0, 1, 0);
        x.as(0, 1);
        x.as(0, 2);
        x.undo();
        x.ask();
        x.lie();
        x.people(3);
        for (int i = 0; i < 4; i++) {
            x.lays(0);
        }
        for (int i = 0; i < 5; i++) {
            x.sheet(0, 8, -1);
        }
        int[] counts = {2, 1, 2, 3, 1, 4, 5};
        for (int which = 0; which < 7; which++) {
            Due.is("47: status(" + which + ")", counts[which], x.status(which));
        }
        Due.is("47: all", 18, x.status(-1));
    }
}
