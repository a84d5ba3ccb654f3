/** Edges of promises 37 to 42, each by the sentence of the document that names it. */
public final class SheetEdgeTest {
    private static final int LEAST = Integer.MIN_VALUE;
    private static final int MOST = Integer.MAX_VALUE;

    private interface OfSheet {
        long answer(MaskBows x, int s);
    }

    public static void main(String[] args) {
        sheetBeyond();
        sheetSize();
        sheetTaken();
        missingAtFirst();
        writePlaces();
        writeSigns();
        copyFindings();
        copyPlaces();
        copyAsTheyWere();
        lays();
        laysSeventh();
        ledger();
        read();
        Due.end("SheetEdgeTest");
    }

    /** SHEETS 0 to 3. BEYOND: no such sheet. */
    private static void noSuchSheet(String what, OfSheet call) {
        for (Edge.Told told : new Edge.Told[] {Given::nothing, Given::much, Given::noneHolds}) {
            for (int s : new int[] {-1, 4, LEAST, MOST}) {
                Edge.refused(what + ", sheet " + s, Due.BEYOND, told, x -> call.answer(x, s));
            }
        }
    }

    /** BEYOND: no such sheet, other bits. */
    private static void sheetBeyond() {
        noSuchSheet("37: sheet", (x, s) -> x.sheet(s, 8, 3));
        noSuchSheet("37: sheet to be missing", (x, s) -> x.sheet(s, 0, 3));
        noSuchSheet("37: sheet of other bits", (x, s) -> x.sheet(s, 32, 3));
        noSuchSheet("37: ahead of SIZE", (x, s) -> x.sheet(s, 8, -1));
        for (int bits : new int[] {-64, -8, -1, 1, 7, 9, 15, 17, 24, 32, 63, 65, 128, LEAST, MOST}) {
            Edge.refused("37: bits " + bits, Due.BEYOND, Given::much, x -> x.sheet(0, bits, 3));
            Edge.refused("37: bits " + bits + " ahead of SIZE", Due.BEYOND, Given::much, x -> x.sheet(0, bits, -1));
            Edge.refused("37: bits " + bits + ", n 41", Due.BEYOND, Given::much, x -> x.sheet(0, bits, 41));
        }
    }

    /** SIZE: n is below 0 (also with bits 0). BEYOND: n is above 40 (also with bits 0). */
    private static void sheetSize() {
        for (int bits : new int[] {0, 8, 16, 64}) {
            for (int n : new int[] {-1, LEAST}) {
                Edge.refused("37: bits " + bits + ", n " + n, Due.SIZE, Given::much, x -> x.sheet(0, bits, n));
                Edge.refused("37: missing, bits " + bits + ", n " + n, Due.SIZE, Given::much, x -> x.sheet(3, bits, n));
            }
            for (int n : new int[] {41, MOST}) {
                Edge.refused("37: bits " + bits + ", n " + n, Due.BEYOND, Given::much, x -> x.sheet(0, bits, n));
            }
        }
    }

    /** A sheet has n numbers, all 0, of 8, 16 or 64 bits; bits 0: it is MISSING: n (0 if it is MISSING). */
    private static void sheetTaken() {
        for (int bits : new int[] {8, 16, 64}) {
            for (int n : new int[] {0, 1, 40}) {
                Edge.taken("37: bits " + bits + ", n " + n, n, Given::much, x -> x.sheet(3, bits, n));
                Edge.refused("37: place n", Due.BEYOND, x -> x.sheet(3, bits, n), x -> x.write(3, n, 1));
            }
            Edge.taken("37: the last place", 0, x -> x.sheet(3, bits, 40), x -> x.write(3, 39, 1));
            Edge.alike("37: all 0 again, bits " + bits, x -> x.sheet(1, bits, 6), x -> {
                Given.sheetOf(x, 1, bits, 1, 2, 3, 4, 5, 6);
                x.sheet(1, bits, 6);
            });
            Edge.alike("37: all 0 when it was longer and shorter", x -> x.sheet(1, bits, 6), x -> {
                Given.sheetOf(x, 1, bits, 1, 2, 3, 4, 5, 6);
                x.sheet(1, bits, 2);
                x.sheet(1, bits, 6);
            });
            Edge.alike("37: all 0 when it was missing", x -> x.sheet(1, bits, 6), x -> {
                Given.sheetOf(x, 1, bits, 1, 2, 3, 4, 5, 6);
                x.sheet(1, 0, 6);
                x.sheet(1, bits, 6);
            });
        }
        for (int n : new int[] {0, 1, 40}) {
            Edge.taken("37: bits 0, n " + n, 0, Given::much, x -> x.sheet(0, 0, n));
            Edge.refused("37: it is missing", Due.MISSING, x -> {
                Given.much(x);
                x.sheet(0, 0, n);
            }, x -> x.write(0, 0, 0));
            Edge.idle("37: a missing one stays so", 0, Given::much, x -> x.sheet(3, 0, n));
        }
    }

    /** MISSING (at first). */
    private static void missingAtFirst() {
        for (int sheet = 0; sheet < 4; sheet++) {
            int s = sheet;
            Edge.refused("38: write to " + s, Due.MISSING, Given::nothing, x -> x.write(s, 0, 0));
            Edge.refused("39: copy within " + s, Due.MISSING, Given::nothing, x -> x.copy(s, 0, s, 0, 0));
            Edge.refused("40: lays of " + s, Due.MISSING, Given::nothing, x -> x.lays(s));
            Edge.refused("41: ledger of " + s, Due.MISSING, Given::nothing, x -> x.ledger(s, 0));
            Edge.refused("42: read of " + s, Due.MISSING, Given::nothing, x -> x.read(s, 0));
        }
    }

    /** BEYOND: no such sheet. MISSING. BEYOND: no such number. */
    private static void writePlaces() {
        noSuchSheet("38: write", (x, s) -> x.write(s, 0, 5));
        noSuchSheet("38: write at no place", (x, s) -> x.write(s, -1, 5));
        for (int i : new int[] {-1, 5, 40, LEAST, MOST}) {
            Edge.refused("38: place " + i, Due.BEYOND, Given::much, x -> x.write(0, i, 7));
            Edge.refused("38: MISSING ahead of place " + i, Due.MISSING, Given::much, x -> x.write(3, i, 7));
        }
        Edge.taken("38: the first", 1, Given::much, x -> x.write(0, 0, 7));
        Edge.taken("38: the last", 10, Given::much, x -> x.write(0, 4, 7));
        Edge.idle("38: as it was", -4, Given::much, x -> x.write(0, 3, -4));
        Edge.refused("38: an empty sheet has none", Due.BEYOND, x -> x.sheet(0, 8, 0), x -> x.write(0, 0, 7));
    }

    /** Becomes v (its lowest bits): told with their sign: of 8 bits 255 is -1. */
    private static void writeSigns() {
        long[][] of8 = {{127, 127}, {128, -128}, {255, -1}, {256, 0}, {257, 1}, {-128, -128}, {-129, 127}, {-256, 0}};
        long[][] of16 = {{32767, 32767}, {32768, -32768}, {65535, -1}, {65536, 0}, {65537, 1}, {-32768, -32768}, {-32769, 32767}};
        long[][] of64 = {{Long.MAX_VALUE, Long.MAX_VALUE}, {Long.MIN_VALUE, Long.MIN_VALUE}, {-1, -1}, {1L << 32, 1L << 32}, {128, 128}};
        dueNumbers(8, of8);
        dueNumbers(16, of16);
        dueNumbers(64, of64);
        dueNumbers(8, new long[][] {{Long.MAX_VALUE, -1}, {Long.MIN_VALUE, 0}});
        dueNumbers(16, new long[][] {{Long.MAX_VALUE, -1}, {Long.MIN_VALUE, 0}});
        // What it was may look like a finding, and is none.
        dueNumbers(64, new long[][] {{Due.BEYOND, Due.BEYOND}, {Due.MISSING, Due.MISSING}});
    }

    private static void dueNumbers(int bits, long[][] wroteAndIs) {
        for (long[] pair : wroteAndIs) {
            Edge.taken("38: " + bits + " bits of " + pair[0], pair[1], x -> {
                x.sheet(2, bits, 40);
                x.write(2, 39, pair[0]);
            }, x -> x.write(2, 39, 0));
        }
    }

    /** BEYOND: no such sheet (either). MISSING: one is. KIND: they are not of as many bits. */
    private static void copyFindings() {
        noSuchSheet("39: copy from none", (x, s) -> x.copy(s, 0, 0, 0, 1));
        noSuchSheet("39: copy to none", (x, s) -> x.copy(0, 0, s, 0, 1));
        noSuchSheet("39: from none to a missing one", (x, s) -> x.copy(s, -1, 3, -1, -1));
        noSuchSheet("39: from a missing one to none", (x, s) -> x.copy(3, -1, s, -1, -1));
        for (int n : new int[] {-1, 0, 1, 99}) {
            Edge.refused("39: from a missing one, n " + n, Due.MISSING, Given::much, x -> x.copy(3, 0, 0, 0, n));
            Edge.refused("39: to a missing one, n " + n, Due.MISSING, Given::much, x -> x.copy(0, 0, 3, 0, n));
            Edge.refused("39: 8 bits to 16, n " + n, Due.KIND, Given::much, x -> x.copy(0, 0, 1, 0, n));
            Edge.refused("39: 16 bits to 64, n " + n, Due.KIND, Given::much, x -> x.copy(1, 0, 2, 0, n));
            Edge.refused("39: 64 bits to 8, n " + n, Due.KIND, Given::much, x -> x.copy(2, 0, 0, 0, n));
        }
        Edge.refused("39: KIND ahead of places", Due.KIND, Given::much, x -> x.copy(0, -1, 1, 9, 3));
    }

    /** Sheet 0 has five numbers, sheet 3 three, both of 8 bits. */
    private static void fiveAndThree(MaskBows x) {
        Given.much(x);
        Given.sheetOf(x, 3, 8, 51, 52, 53);
    }

    private static void refusedCopy(int s, int from, int t, int to, int n) {
        String what = "39: copy(" + s + ", " + from + ", " + t + ", " + to + ", " + n + ")";
        Edge.refused(what, Due.BEYOND, SheetEdgeTest::fiveAndThree, x -> x.copy(s, from, t, to, n));
    }

    /** BEYOND: one has not so many (with n 0 a place up to the length), or from, to or n is below 0. */
    private static void copyPlaces() {
        for (int[] at : new int[][] {{0, 0}, {5, 3}, {5, 0}, {0, 3}}) {
            String what = "39: n 0 from " + at[0] + " to " + at[1];
            Edge.idle(what, 0, SheetEdgeTest::fiveAndThree, x -> x.copy(0, at[0], 3, at[1], 0));
        }
        refusedCopy(0, 6, 3, 0, 0);
        refusedCopy(0, 0, 3, 4, 0);
        refusedCopy(3, 4, 0, 0, 0);
        refusedCopy(3, 0, 0, 6, 0);
        Edge.taken("39: all of the shorter", 3, SheetEdgeTest::fiveAndThree, x -> x.copy(3, 0, 0, 2, 3));
        Edge.taken("39: the last of the longer", 3, SheetEdgeTest::fiveAndThree, x -> x.copy(0, 2, 3, 0, 3));
        Edge.taken("39: one from the end to the end", 1, SheetEdgeTest::fiveAndThree, x -> x.copy(0, 4, 3, 2, 1));
        refusedCopy(3, 0, 0, 3, 3);
        refusedCopy(3, 1, 0, 0, 3);
        refusedCopy(0, 3, 3, 0, 3);
        refusedCopy(0, 0, 3, 0, 4);
        refusedCopy(0, 0, 3, 1, 3);
        refusedCopy(0, 5, 3, 0, 1);
        refusedCopy(0, 0, 3, 3, 1);
        for (int wrong : new int[] {-1, LEAST}) {
            refusedCopy(0, wrong, 3, 0, 0);
            refusedCopy(0, wrong, 3, 0, 1);
            refusedCopy(0, 0, 3, wrong, 0);
            refusedCopy(0, 0, 3, wrong, 1);
            refusedCopy(0, 0, 3, 0, wrong);
            refusedCopy(0, 5, 3, 3, wrong);
        }
        refusedCopy(0, MOST, 3, 0, 1);
        refusedCopy(0, 0, 3, MOST, 1);
        refusedCopy(0, 0, 3, 0, MOST);
        refusedCopy(0, 1, 3, 1, MOST);
        refusedCopy(0, MOST, 3, MOST, MOST);
        refusedCopy(0, MOST, 3, 0, 0);
        Edge.taken("39: forty", 40, x -> {
            x.sheet(0, 64, 40);
            x.sheet(1, 64, 40);
        }, x -> x.copy(0, 0, 1, 0, 40));
        Edge.idle("39: empty ones", 0, x -> {
            x.sheet(0, 64, 0);
            x.sheet(1, 64, 0);
        }, x -> x.copy(0, 0, 1, 0, 0));
    }

    /** Numbers come as they all were. */
    private static void copyAsTheyWere() {
        dueCopied("up by one", 0, 1, 4, 1, 1, 2, 3, 4);
        dueCopied("up by two", 0, 2, 3, 1, 2, 1, 2, 3);
        dueCopied("down by one", 1, 0, 4, 2, 3, 4, 5, 5);
        dueCopied("down by two", 2, 0, 3, 3, 4, 5, 4, 5);
        dueCopied("onto itself", 0, 0, 5, 1, 2, 3, 4, 5);
        Edge.alike("39: to another, the first one stays", x -> {
            Given.sheetOf(x, 0, 16, -5, 300, 7);
            Given.sheetOf(x, 3, 16, 9, 300, 7, 9);
        }, x -> {
            Given.sheetOf(x, 0, 16, -5, 300, 7);
            Given.sheetOf(x, 3, 16, 9, 9, 9, 9);
            x.copy(0, 1, 3, 1, 2);
        });
    }

    private static void dueCopied(String what, int from, int to, int n, long... due) {
        Edge.alike("39: " + what, x -> Given.sheetOf(x, 1, 64, due), x -> {
            Given.sheetOf(x, 1, 64, 1, 2, 3, 4, 5);
            x.copy(1, from, 1, to, n);
        });
    }

    private static Edge.Told withSheet(Edge.Told told, int bits, long... numbers) {
        return x -> {
            told.to(x);
            Given.sheetOf(x, 1, bits, numbers);
        };
    }

    /** Those that aren't 0 to 10, or stand for none, are left out: how many came. BEYOND: no such sheet. MISSING. */
    private static void lays() {
        noSuchSheet("40: lays", (x, s) -> x.lays(s));
        Edge.refused("40: missing", Due.MISSING, Given::much, x -> x.lays(3));
        Edge.idle("40: an empty sheet", 0, withSheet(Given::much, 8), x -> x.lays(1));
        Edge.idle("40: no bows", 0, withSheet(Given::nothing, 8, 5, 5), x -> x.lays(1));
        Edge.idle("40: -1 and 11 are left out", 0, withSheet(Given::much, 64, -1, 11, Long.MIN_VALUE, Long.MAX_VALUE), x -> x.lays(1));
        Edge.idle("40: longs whose lowest bits would do", 0, withSheet(Given::much, 64, 1L << 32, 1L << 40, 5 - (1L << 32)), x -> x.lays(1));
        Edge.taken("40: 0 and 10 come", 2, withSheet(Given::much, 16, 0, 10), x -> x.lays(1));
        Edge.idle("40: as they are, they come too", 4, withSheet(Given::much, 8, 10, 4, 7, 6), x -> x.lays(1));
        Edge.taken("40: those behind the last bow stand for none", 4, withSheet(Given::much, 8, 1, 1, 1, 1, 1, 1), x -> x.lays(1));
        Edge.alike("40: what came", x -> {
            withSheet(Given::much, 8, 0, 11, 10, -1, 5).to(x);
            x.doubt(0, 0);
            x.doubt(2, 10);
        }, x -> {
            withSheet(Given::much, 8, 0, 11, 10, -1, 5).to(x);
            x.lays(1);
        });
        Edge.taken("40: bow 19 too", 19, x -> {
            Given.twentyBows(x);
            x.sheet(1, 8, 40);
            for (int i = 0; i < 20; i++) {
                x.write(1, i, i == 7 ? 11 : 10);
            }
        }, x -> x.lays(1));
        Edge.idle("40: where no night holds, too", 1, withSheet(Given::noneHolds, 8, 10), x -> x.lays(1));
        Edge.taken("40: what was asked ahead is asked anew", 1, x -> {
            withSheet(Given::much, 8, 0, 0, 0, 0).to(x);
            x.nights();
            x.lays(1);
        }, x -> x.nights());
    }

    /** Those that would make a 7th DOUBTED one are left out. */
    private static void laysSeventh() {
        Edge.idle("40: a 7th", 6, withSheet(Given::sixDoubted, 8, 9, 8, 7, 6, 5, 4, 9, 0), x -> x.lays(1));
        Edge.taken("40: a 6th, when one ahead was seen", 7, withSheet(Given::sixDoubted, 8, 10, 8, 7, 6, 5, 4, 9, 0), x -> x.lays(1));
        Edge.alike("40: bow 6 came, bow 7 didn't", x -> {
            withSheet(Given::sixDoubted, 8, 10, 8, 7, 6, 5, 4, 9, 0).to(x);
            x.doubt(0, 10);
            x.doubt(6, 9);
        }, x -> {
            withSheet(Given::sixDoubted, 8, 10, 8, 7, 6, 5, 4, 9, 0).to(x);
            x.lays(1);
        });
        Edge.Told allSeen = x -> {
            for (int i = 0; i < 8; i++) {
                x.bow(i, 0, 1, 10);
            }
        };
        Edge.taken("40: six of eight", 6, withSheet(allSeen, 8, 0, 0, 0, 0, 0, 0, 0, 0), x -> x.lays(1));
        Edge.taken("40: the first six, and a seen one", 7, withSheet(allSeen, 8, 0, 0, 0, 0, 0, 0, 0, 10), x -> x.lays(1));
    }

    /** As far as it has numbers: how many. BEYOND: no such sheet. MISSING. BEYOND: hour. NONE: none HOLDS. */
    private static void ledger() {
        noSuchSheet("41: ledger", (x, s) -> x.ledger(s, 0));
        noSuchSheet("41: ledger at no hour", (x, s) -> x.ledger(s, 100));
        for (int hour : new int[] {-1, 100, LEAST, MOST}) {
            Edge.refused("41: hour " + hour, Due.BEYOND, Given::much, x -> x.ledger(0, hour));
            Edge.refused("41: MISSING ahead of hour " + hour, Due.MISSING, Given::much, x -> x.ledger(3, hour));
            Edge.refused("41: hour " + hour + " ahead of NONE", Due.BEYOND, Given::noneHolds, x -> x.ledger(0, hour));
        }
        Edge.refused("41: none holds", Due.NONE, Given::noneHolds, x -> x.ledger(0, 0));
        Edge.refused("41: none holds, an empty sheet", Due.NONE, withSheet(Given::noneHolds, 8), x -> x.ledger(1, 0));
        Edge.refused("41: MISSING ahead of NONE", Due.MISSING, Given::noneHolds, x -> x.ledger(3, 0));
        Edge.idle("41: an empty sheet", 0, withSheet(Given::much, 8), x -> x.ledger(1, 0));
        Edge.taken("41: fewer numbers than masks", 3, Given::much, x -> x.ledger(1, 0));
        Edge.taken("41: as many", 5, Given::much, x -> x.ledger(0, 99));
        Edge.taken("41: more", 5, withSheet(Given::much, 64, 9, 9, 9, 9, 9, 9), x -> x.ledger(1, 99));
        Edge.alike("41: hour 98", withSheet(Given.bowsAt(99), 8, 0, 1, 2, 3, 9), x -> {
            withSheet(Given.bowsAt(99), 8, 9, 9, 9, 9, 9).to(x);
            x.ledger(1, 98);
        });
        Edge.alike("41: hour 99", withSheet(Given.bowsAt(99), 16, 1, 0, 2, 3, 9), x -> {
            withSheet(Given.bowsAt(99), 16, 9, 9, 9, 9, 9).to(x);
            x.ledger(1, 99);
        });
        Edge.alike("41: hour 0", withSheet(Given.bowsAt(0), 64, 1, 0), x -> {
            withSheet(Given.bowsAt(0), 64, 9, 9).to(x);
            x.ledger(1, 0);
        });
    }

    /** As many as both have: ODDS of it. BEYOND: no such sheet. MISSING. BEYOND: hour. */
    private static void read() {
        noSuchSheet("42: read", (x, s) -> x.read(s, 0));
        noSuchSheet("42: read at no hour", (x, s) -> x.read(s, -1));
        for (int hour : new int[] {-1, 100, LEAST, MOST}) {
            Edge.refused("42: hour " + hour, Due.BEYOND, Given::much, x -> x.read(0, hour));
            Edge.refused("42: hour " + hour + ", none holds", Due.BEYOND, Given::noneHolds, x -> x.read(0, hour));
            Edge.refused("42: MISSING ahead of hour " + hour, Due.MISSING, Given::much, x -> x.read(3, hour));
        }
        Edge.refused("42: missing, none holds", Due.MISSING, Given::noneHolds, x -> x.read(3, 0));
        Edge.idle("42: none holds", 0, Given::noneHolds, x -> x.read(0, 0));
        Edge.idle("42: none holds, an empty sheet", 0, withSheet(Given::noneHolds, 8), x -> x.read(1, 0));
        Edge.idle("42: an empty sheet", 1000, withSheet(Given::much, 8), x -> x.read(1, 0));
        Edge.idle("42: fewer numbers than masks", 1000, withSheet(Given::much, 8, 0, 1), x -> x.read(1, 0));
        Edge.idle("42: as many", 1000, withSheet(Given::much, 8, 0, 1, 2, 3, 4), x -> x.read(1, 0));
        Edge.idle("42: more, of which the rest stand for none", 1000, withSheet(Given::much, 8, 0, 1, 2, 3, 4, 9), x -> x.read(1, 0));
        Edge.idle("42: the last one is not so", 0, withSheet(Given::much, 8, 0, 1, 2, 3, 5), x -> x.read(1, 0));
        Edge.idle("42: the first one is not so", 0, withSheet(Given::much, 8, 1, 1, 2, 3, 4), x -> x.read(1, 0));
        Edge.idle("42: a long is compared whole", 0, withSheet(Given::much, 64, 1L << 32), x -> x.read(1, 0));
        Edge.idle("42: below 0 is none", 0, withSheet(Given::much, 8, -8), x -> x.read(1, 0));
        Edge.idle("42: hour 98", 1, withSheet(Given.bowsAt(99), 8, 0, 1), x -> x.read(1, 98));
        Edge.idle("42: hour 99", 1, withSheet(Given.bowsAt(99), 8, 1, 0), x -> x.read(1, 99));
        Edge.idle("42: it is not changed by being read", 700, withSheet(Given::much, 16, 1, 0, 2, 4), x -> x.read(1, 3));
    }
}
