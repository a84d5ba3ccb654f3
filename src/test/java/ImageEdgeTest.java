/** Edges of promises 43 to 47 and of the findings, each by the sentence of the document that names it. */
public final class ImageEdgeTest {
    private static final int LEAST = Integer.MIN_VALUE;
    private static final int MOST = Integer.MAX_VALUE;

    public static void main(String[] args) {
        image();
        undo();
        undoLeaves();
        tear();
        count();
        statusOfOthers();
        statusCounts();
        findingsInLongs();
        Due.end("ImageEdgeTest");
    }

    /** All that section 1 tells (THE TAPE not) is kept: 1. */
    private static void image() {
        Edge.taken("43: of a new object", 1, Given::nothing, x -> x.image());
        Edge.taken("43: over another", 1, Given::much, x -> x.image());
        Edge.idle("43: the same again", 1, x -> {
            Given.much(x);
            x.image();
        }, x -> x.image());
        kept("N 2", x -> x.people(2));
        kept("N 8", x -> x.people(8));
        kept("a bow", x -> x.bow(99, 3, 2, 0));
        kept("twenty bows", Given::twentyBows);
        kept("six doubted ones", Given::sixDoubted);
        kept("twelve deeds", Given::twelveDeeds);
        kept("ten sayings", Given::tenSayings);
        kept("the rule", x -> x.let(0, true));
        kept("belief", x -> x.let(1, true));
    }

    /** What was told is there again when much else was told behind the image. */
    private static void kept(String what, Edge.Told told) {
        Edge.alike("43: " + what, x -> {
            told.to(x);
            x.image();
        }, x -> {
            told.to(x);
            x.image();
            change(x);
            x.undo();
        });
    }

    /** Changes something of each kind, as far as there is room. */
    private static void change(MaskBows x) {
        x.people(7);
        x.bow(0, 1, 0, 10);
        x.doubt(0, 1);
        x.doubt(3, 10);
        x.deed(4, 99, 1, 0, 999);
        x.turn(0, 5);
        x.says(99, 1, 1, true);
        x.let(0, x.let(0, true) == 1);
        x.let(1, x.let(1, true) == 1);
        x.nights();
    }

    /** It becomes what was kept latest (which stays): how many BOWS. NONE: nothing is kept. */
    private static void undo() {
        Edge.refused("44: nothing is kept", Due.NONE, Given::nothing, x -> x.undo());
        Edge.refused("44: nothing is kept, much is told", Due.NONE, x -> {
            Given.much(x);
            x.tear();
        }, x -> x.undo());
        Edge.taken("44: no bows", 0, x -> {
            x.image();
            x.bow(0, 0, 1, 10);
        }, x -> x.undo());
        Edge.taken("44: twenty bows", 20, x -> {
            Given.twentyBows(x);
            x.image();
            x.doubt(19, 0);
        }, x -> x.undo());
        Edge.taken("44: more bows than there are now", 3, x -> {
            Given.much(x);
            x.undo();
        }, x -> x.undo());
        Edge.idle("44: it stays", 3, x -> {
            Given.much(x);
            x.undo();
        }, x -> x.undo());
        Edge.taken("44: the latest", 4, x -> {
            Given.much(x);
            x.image();
            x.bow(0, 0, 1, 10);
        }, x -> x.undo());
    }

    /** (THE TAPE not); sheets are no part of section 1, and undo() takes no finding back. */
    private static void undoLeaves() {
        Edge.taken("44: the tape stays", 17, x -> {
            Given.much(x);
            x.undo();
        }, x -> x.count(5));
        Edge.taken("44: a tape that was wiped stays so", 0, x -> {
            Given.much(x);
            x.image();
            x.wipe();
            x.undo();
        }, x -> x.count(5));
        Edge.taken("44: a sheet stays", 10, x -> {
            Given.much(x);
            x.undo();
        }, x -> x.write(0, 4, 0));
        Edge.refused("44: a sheet that is missing stays so", Due.MISSING, x -> {
            Given.much(x);
            x.image();
            x.sheet(0, 0, 0);
            x.undo();
        }, x -> x.write(0, 4, 0));
        Edge.taken("47: undo() takes none back", 3, x -> {
            x.image();
            x.ask();
            x.people(1);
            x.bowOf(0, 0);
            x.undo();
        }, x -> x.status(-1));
    }

    /** Nothing is kept: 1 if something was, else 0. */
    private static void tear() {
        Edge.idle("45: nothing was", 0, Given::nothing, x -> x.tear());
        Edge.taken("45: something was", 1, Given::much, x -> x.tear());
        Edge.idle("45: and no more", 0, x -> {
            Given.much(x);
            x.tear();
        }, x -> x.tear());
        Edge.taken("45: an image of nothing is something", 1, x -> x.image(), x -> x.tear());
        Edge.alike("45: it is as if there had been none", x -> x.bow(0, 0, 1, 5), x -> {
            x.image();
            x.bow(0, 0, 1, 5);
            x.tear();
        });
        Edge.taken("45: kept anew", 1, x -> {
            Given.much(x);
            x.tear();
            x.image();
        }, x -> x.tear());
    }

    /** 0 N, 1 BOWS, 2 DOUBTED ones, 3 DEEDS, 4 SAYINGS, 5 bytes of THE TAPE. BEYOND: another what. */
    private static void count() {
        int[] none = {4, 0, 0, 0, 0, 0};
        int[] much = {5, 4, 3, 3, 2, 17};
        for (int what = 0; what < 6; what++) {
            int w = what;
            Edge.idle("46: at first, " + w, none[w], Given::nothing, x -> x.count(w));
            Edge.idle("46: of much, " + w, much[w], Given::much, x -> x.count(w));
        }
        Edge.idle("46: at most 20", 20, Given::twentyBows, x -> x.count(1));
        Edge.idle("46: at most 6", 6, Given::sixDoubted, x -> x.count(2));
        Edge.idle("46: at most 12", 12, Given::twelveDeeds, x -> x.count(3));
        Edge.idle("46: at most 10", 10, Given::tenSayings, x -> x.count(4));
        for (int what : new int[] {-1, 6, LEAST, MOST}) {
            Edge.refused("46: what " + what, Due.BEYOND, Given::much, x -> x.count(what));
        }
    }

    /** BEYOND (counted from then on): another one. */
    private static void statusOfOthers() {
        for (int which : new int[] {-2, 7, LEAST, MOST}) {
            Edge.refused("47: which " + which, Due.BEYOND, Given::much, x -> x.status(which));
            Edge.taken("47: it counts itself", 1, x -> x.status(which), x -> x.status(0));
            Edge.taken("47: among all", 1, x -> x.status(which), x -> x.status(-1));
        }
        for (int which = -1; which < 7; which++) {
            int w = which;
            Edge.idle("47: none at first, " + w, 0, Given::nothing, x -> x.status(w));
        }
    }

    /** How many acts answered a finding ever: which -1: all, 0 to 6: BEYOND to SIZE. */
    private static void statusCounts() {
        Edge.Told[] findings = {
            x -> x.people(0),
            x -> {
                Given.sixDoubted(x);
                x.bow(0, 0, 1, 5);
            },
            x -> {
                x.deed(0, 0, 0, 1, 0);
                x.as(0, 1);
            },
            x -> x.lie(),
            x -> {
                x.bow(0, 0, 1, 10);
                x.people(2);
            },
            x -> x.lays(0),
            x -> x.sheet(0, 8, -1),
        };
        for (int told = 0; told < 7; told++) {
            for (int which = -1; which < 7; which++) {
                int w = which;
                int due = which == told || which == -1 ? 1 : 0;
                Edge.idle("47: status(" + w + ") of finding " + told, due, findings[told], x -> x.status(w));
            }
        }
        Edge.idle("47: four hundred", 400, x -> {
            for (int i = 0; i < 400; i++) {
                x.ask();
            }
        }, x -> x.status(3) + x.status(0));
    }

    /** FINDINGS (in longs, too). */
    private static void findingsInLongs() {
        MaskBows x = new MaskBows();
        Due.is("BEYOND of odds", -1000000001L, x.odds(4, 0, 0));
        Due.is("BEYOND of same", -1000000001L, x.same(0, 1));
        Due.is("BEYOND of owes", -1000000001L, x.owes(4));
        Due.is("BEYOND of bound", -1000000001L, x.bound(0, 0));
        Due.is("BEYOND of write", -1000000001L, x.write(4, 0, 0));
        Due.is("BEYOND of read", -1000000001L, x.read(4, 0));
        Due.is("MISSING of write", -1000000006L, x.write(0, 0, 0));
        Due.is("MISSING of read", -1000000006L, x.read(0, 0));
    }
}
