/** Promises 27 to 29: doubts. */
public final class DoubtTest {
    public static void main(String[] args) {
        ask();
        witnesses();
        unsure();
        Due.end("DoubtTest");
    }

    private static void ask() {
        MaskBows x = new MaskBows();
        x.bow(0, 0, 1, 10);
        Due.is("27: no doubt", Due.NONE, x.ask());
        x.bow(1, 0, 2, 9);
        Due.is("27: the only one", 1, x.ask());
        x.bow(2, 0, 3, 3);
        Due.is("27: nearer to the half", 2, x.ask());
        x.bow(3, 1, 2, 7);
        Due.is("27: of several the least", 2, x.ask());
        x.bow(0, 1, 3, 6);
        Due.is("27: by odds, not by hours", 4, x.ask());
        // Mask 2 is 1's behind the seen bow and bow 1: then bow 1 was made for sure.
        x.says(1, 2, 1, true);
        x.let(1, true);
        x.doubt(1, 5);
        Due.is("27: odds go by nights that hold", 4, x.ask());
        x.let(1, false);
        Due.is("27: without the saying", 1, x.ask());
        x.says(1, 2, 2, true);
        x.let(1, true);
        Due.is("27: none holds", Due.NONE, x.ask());
    }

    private static void witnesses() {
        MaskBows x = new MaskBows();
        x.bow(1, 0, 1, 5);
        x.bow(2, 2, 3, 5);
        x.bow(3, 0, 1, 10);
        x.bow(4, 1, 2, 5);
        Due.is("28: no deeds", 0, x.witnesses());
        x.deed(0, 0, 0, 1, 0);
        Due.is("28: a sure deed", 0, x.witnesses());
        x.deed(0, 2, 2, 1, 0);
        Due.is("28: bow 1 settles it", 2, x.witnesses());
        x.deed(0, 3, 0, 2, 0);
        Due.is("28: and bow 0", 3, x.witnesses());
        x.deed(0, 4, 1, 0, 0);
        Due.is("28: and bow 3", 11, x.witnesses());
        x.doubt(3, 0);
        Due.is("28: as far as a night holds", 3, x.witnesses());
        x.says(0, 0, 1, true);
        x.let(1, true);
        Due.is("28: none holds", 0, x.witnesses());
        eitherOfTwo();
        oneDoubt();
    }

    private static void eitherOfTwo() {
        MaskBows x = new MaskBows();
        x.bow(1, 2, 3, 5);
        x.bow(2, 0, 1, 5);
        x.bow(3, 0, 1, 5);
        x.deed(0, 9, 0, 1, 0);
        Due.is("28: two bows turn it", 6, x.witnesses());
        // Mask 0 at hour 2 is 0's only if bow 1 wasn't made; believed to go together with bow 2.
        x.says(9, 0, 0, true);
        x.let(1, true);
        Due.is("28: what is believed is known", 0, x.witnesses());
        x.deed(0, 2, 0, 1, 0);
        Due.is("28: either would do: of several the least", 2, x.witnesses());
    }

    private static void oneDoubt() {
        MaskBows x = new MaskBows();
        x.bow(1, 2, 3, 10);
        x.bow(2, 0, 1, 5);
        x.deed(0, 2, 3, 0, 0);
        Due.is("28: its doer is sure", 0, x.witnesses());
        x.deed(0, 2, 0, 3, 0);
        Due.is("28: the only doubt", 2, x.witnesses());
    }

    private static void unsure() {
        MaskBows x = new MaskBows();
        Due.is("29: no deeds", 0, x.unsure());
        x.bow(5, 0, 1, 5);
        x.deed(0, 4, 0, 1, 0);
        x.deed(0, 5, 0, 2, 0);
        x.deed(0, 5, 2, 0, 0);
        x.deed(0, 9, 1, 2, 0);
        Due.is("29: doers alone count", 2 + 8, x.unsure());
        x.doubt(0, 10);
        Due.is("29: seen", 0, x.unsure());
        x.doubt(0, 0);
        Due.is("29: never made", 0, x.unsure());
        x.says(0, 0, 1, true);
        x.let(1, true);
        Due.is("29: none holds: none is sure", 15, x.unsure());
    }
}
