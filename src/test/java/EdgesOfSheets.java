/** The sentences on sheets, reading and counting that name a boundary: promises 32 to 36, and the last call. */
public final class EdgesOfSheets {
    private static final int BAD = Due.BAD, NONE = Due.NONE;
    private static final int LOW = Due.LOW, TOP = Due.TOP;
    private static final int NULL = 1, INDEX = 2, CAST = 3;

    private static NoSquare large() {
        return Due.taken("grid 4 3;", 1);
    }

    private static void lay(NoSquare x, int k, int... cells) {
        for (int i = 0; i < cells.length; i++) {
            Due.due("lay(" + k + ", " + i + ", " + cells[i] + ")", x.lay(k, i, cells[i]), 1);
        }
    }

    private static void reads(NoSquare x, int[] at, int want, int torn) {
        String call = "read(" + at[0] + ", " + at[1] + ", " + at[2] + ", " + at[3] + ")";
        Due.due(call, x.read(at[0], at[1], at[2], at[3]), want);
        Due.due("torn() behind " + call, x.torn(), torn);
    }

    private static void sheets() {
        Due.edge("SHEETS 0 to 3 are rows of BYTES (lane 0), SHORTS (1), INTS (2) with 0 to 40 CELLS, or nothing (at"
                + " first).");
        for (int k = 0; k < 4; k++) {
            NoSquare x = new NoSquare();
            for (int lane = 0; lane < 3; lane++) {
                reads(x, new int[] {k, lane, 0, 1}, 0, NULL);
            }
            for (int lane = 0; lane < 3; lane++) {
                Due.due("sheet(" + k + ", " + lane + ", 40)", x.sheet(k, lane, 40), 1);
                Due.due("lay(" + k + ", 39, 5)", x.lay(k, 39, 5), 1);
                Due.due("lay(" + k + ", 40, 5)", x.lay(k, 40, 5), -12);
                Due.due("sheet(" + k + ", " + lane + ", 0)", x.sheet(k, lane, 0), 1);
                Due.due("lay(" + k + ", 0, 5)", x.lay(k, 0, 5), -12);
            }
            for (int other = 0; other < 4; other++) {
                Due.due("lay(" + other + ", 0, 0)", x.lay(other, 0, 0), other == k ? -12 : -11);
            }
        }
    }

    private static void newSheet() {
        Due.edge("A SHEET is a new row of CELLS 0: 1. BAD: also n above 40; -10 - 4.");
        NoSquare x = new NoSquare();
        Due.each("sheet(0, 0, ..)", n -> x.sheet(0, 0, n), 1, 0, 1, 40);
        Due.each("sheet(0, 0, ..)", n -> x.sheet(0, 0, n), BAD, 41, 42, TOP);
        Due.each("sheet(0, 0, ..)", n -> x.sheet(0, 0, n), -14, -1, -2, LOW);
        Due.due("count(4)", x.count(4), 40);
        Due.each("sheet(.., 0, 1)", k -> x.sheet(k, 0, 1), BAD, -1, 4, LOW, TOP);
        Due.each("sheet(0, .., 1)", lane -> x.sheet(0, lane, 1), BAD, -1, 3, LOW, TOP);
        Due.each("sheet(.., 0, -1)", k -> x.sheet(k, 0, -1), BAD, -1, 4);
        Due.each("sheet(0, .., -1)", lane -> x.sheet(0, lane, -1), BAD, -1, 3);
        lay(x, 0, 5, 6);
        // the row is new, of the same number of cells too: all of them are 0
        x.sheet(0, 0, 2);
        reads(x, new int[] {0, 0, 1, 1}, 1, 0);
        Due.due("rule(4)", x.rule(4), 4094);
        x.sheet(0, 2, 1);
        Due.due("count(4)", x.count(4), 1);
        reads(x, new int[] {0, 0, 0, 1}, 0, CAST);
    }

    private static void layFaults() {
        Due.edge("BAD: k; -10 less the FAULT: NULL, INDEX.");
        NoSquare x = new NoSquare();
        Due.each("lay(.., 0, 0)", k -> x.lay(k, 0, 0), -11, 0, 1, 2, 3);
        Due.each("lay(.., 0, 0)", k -> x.lay(k, 0, 0), BAD, -1, 4, LOW, TOP);
        Due.each("lay(0, .., 0)", i -> x.lay(0, i, 0), -11, -1, 40, LOW, TOP);
        for (int lane = 0; lane < 3; lane++) {
            x.sheet(lane, lane, 3);
            int k = lane;
            Due.each("lay(" + k + ", .., 0)", i -> x.lay(k, i, 0), 1, 0, 2);
            Due.each("lay(" + k + ", .., 0)", i -> x.lay(k, i, 0), -12, -1, 3, 40, LOW, TOP);
        }
        x.sheet(3, 0, 0);
        Due.each("lay(3, .., 0)", i -> x.lay(3, i, 0), -12, -1, 0);
        Due.due("torn() is of read() alone", x.torn(), 0);
    }

    private static void lowestBits() {
        Due.edge("CELL i of a SHEET becomes v (its lowest bits): 1.");
        // a lane, what is laid, the match that is read (or NONE: there is no such match)
        int[][] rows = {
            {0, 30, 30}, {0, 256, 0}, {0, 256 + 30, 30}, {0, -256 + 7, 7}, {0, LOW + 7, 7}, {0, 0x12345603, 3},
            {0, 127, NONE}, {0, 128, NONE}, {0, 255, NONE}, {0, -1, NONE}, {0, TOP, NONE}, {0, 31, NONE},
            {1, 30, 30}, {1, 256, NONE}, {1, 65536, 0}, {1, 65536 + 30, 30}, {1, -65536 + 7, 7}, {1, LOW + 7, 7},
            {1, 32767, NONE}, {1, 32768, NONE}, {1, 65535, NONE}, {1, -1, NONE}, {1, TOP, NONE}, {1, 31, NONE},
            {2, 0, 0}, {2, 30, 30}, {2, 256, NONE}, {2, 65536, NONE}, {2, LOW, NONE}, {2, LOW + 7, NONE},
            {2, TOP, NONE}, {2, -1, NONE}, {2, 31, NONE}, {2, 32, NONE},
        };
        for (int[] row : rows) {
            NoSquare x = large();
            x.sheet(1, row[0], 1);
            lay(x, 1, row[1]);
            Due.due("read() of " + row[1], x.read(1, row[0], 0, 1), row[2] == NONE ? -20 : 1);
            Due.due("rule(4) behind " + row[1], x.rule(4), row[2] == NONE ? TOP : TOP - (1 << row[2]));
        }
    }

    private static void readBounds() {
        Due.edge("n (0 to 20) MATCHES are read of a SHEET taken as of a lane, from CELL f on, and taken one behind"
                + " another as by take(): how many were.");
        NoSquare x = large();
        x.sheet(0, 0, 40);
        for (int i = 0; i < 40; i++) {
            x.lay(0, i, i < 31 ? 30 - i : i - 31);
        }
        Due.due("read(0, 0, 0, 0)", x.read(0, 0, 0, 0), 0);
        Due.due("rule(4)", x.rule(4), TOP);
        Due.due("read(0, 0, 11, 20)", x.read(0, 0, 11, 20), 20);
        Due.due("rule(4)", x.rule(4), TOP - ((1 << 20) - 1));
        Due.due("read(0, 0, 10, 1)", x.read(0, 0, 10, 1), 1);
        Due.due("rule(4)", x.rule(4), TOP - ((1 << 21) - 1));
        Due.due("read(0, 0, 0, 10)", x.read(0, 0, 0, 10), 10);
        Due.due("rule(4)", x.rule(4), 0);
        x.lie(8);
        // the last cell
        Due.due("read(0, 0, 39, 1)", x.read(0, 0, 39, 1), 1);
        Due.due("rule(4)", x.rule(4), 0);
    }

    private static void readBad() {
        Due.edge("BAD: k, lane, n;");
        NoSquare x = large();
        x.sheet(3, 2, 40);
        Due.each("read(.., 2, 0, 1)", k -> x.read(k, 2, 0, 1), BAD, -1, 4, LOW, TOP);
        Due.each("read(3, .., 0, 1)", lane -> x.read(3, lane, 0, 1), BAD, -1, 3, LOW, TOP);
        Due.each("read(3, 2, 0, ..)", n -> x.read(3, 2, 0, n), BAD, -1, 21, LOW, TOP);
        // ahead of every fault, and where nothing would be read
        Due.each("read(.., 2, 0, 0)", k -> x.read(k, 2, 0, 0), BAD, -1, 4);
        Due.each("read(0, .., 0, 0)", lane -> x.read(0, lane, 0, 0), BAD, -1, 3);
        Due.each("read(0, 0, 0, ..) of nothing", n -> x.read(0, 0, 0, n), BAD, -1, 21);
        Due.each("read(3, 1, 0, ..) of another lane", n -> x.read(3, 1, 0, n), BAD, -1, 21);
        Due.each("read(3, 2, -1, ..) of no cell", n -> x.read(3, 2, -1, n), BAD, -1, 21);
        Due.due("rule(4)", x.rule(4), TOP);
        Due.due("torn()", x.torn(), 0);
    }

    private static void readRefused() {
        Due.edge("-20 less i: the i-th is refused by take() (in whichever way): then none is taken; the first met.");
        int[] whatRefuses = {31, -1, 29, 0};
        for (int wrong : whatRefuses) {
            for (int i = 1; i < 20; i++) {
                NoSquare x = large();
                x.take(29);
                x.sheet(0, 1, 20);
                for (int j = 0; j < 20; j++) {
                    x.lay(0, j, j < i ? j : wrong);
                }
                Due.due("read() with " + wrong + " at " + i, x.read(0, 1, 0, 20), -20 - i);
                Due.due("rule(4)", x.rule(4), TOP - (1 << 29));
                Due.due("read() ahead of it", x.read(0, 1, 0, i), i);
            }
        }
        NoSquare x = new NoSquare();
        x.sheet(0, 0, 2);
        lay(x, 0, 12, 0);
        Due.due("read() with no such match at 0", x.read(0, 0, 0, 2), -20);
        x.take(0);
        Due.due("read() of one that does not lie", x.read(0, 0, 1, 1), -20);
        // met ahead of a cell that there is not, and behind none
        Due.due("read(0, 0, 1, 2)", x.read(0, 0, 1, 2), -20);
        x.lie(0);
        lay(x, 0, 0, 0);
        Due.due("read(0, 0, 0, 3)", x.read(0, 0, 0, 3), -21);
        Due.due("rule(4)", x.rule(4), 4095);
        Due.due("torn()", x.torn(), 0);
    }

    private static void readTorn() {
        Due.edge("What the machine refuses: those ahead are taken (its FAULT is asked by torn()).");
        NoSquare x = large();
        x.sheet(1, 2, 40);
        for (int i = 0; i < 40; i++) {
            x.lay(1, i, i % 31);
        }
        reads(x, new int[] {1, 2, 40, 1}, 0, INDEX);
        Due.due("rule(4)", x.rule(4), TOP);
        reads(x, new int[] {1, 2, 39, 2}, 1, INDEX);
        Due.due("rule(4)", x.rule(4), TOP - (1 << 8));
        x.lie(8);
        reads(x, new int[] {1, 2, 21, 20}, 19, INDEX);
        Due.due("rule(4)", x.rule(4), 0x1ffe00);
        int[] noCells = {-1, 40, 41, LOW, TOP, TOP - 1, -20};
        for (int f : noCells) {
            reads(x, new int[] {1, 2, f, 20}, 0, INDEX);
        }
        reads(x, new int[] {1, 0, 0, 1}, 0, CAST);
        reads(x, new int[] {1, 1, 0, 20}, 0, CAST);
        reads(x, new int[] {2, 1, 0, 20}, 0, NULL);
        reads(x, new int[] {2, 1, -1, 1}, 0, NULL);
        x.sheet(2, 1, 0);
        reads(x, new int[] {2, 1, 0, 1}, 0, INDEX);
        Due.due("rule(4)", x.rule(4), 0x1ffe00);
    }

    private static void everyLane() {
        Due.edge("A FAULT is what the machine finds: 1 NULL (nothing), 2 INDEX, 3 CAST (another lane), 4 SIZE (below 0).");
        for (int lane = 0; lane < 3; lane++) {
            NoSquare x = new NoSquare();
            for (int as = 0; as < 3; as++) {
                reads(x, new int[] {0, as, 0, 1}, 0, NULL);
            }
            x.sheet(0, lane, 1);
            for (int as = 0; as < 3; as++) {
                reads(x, new int[] {0, as, 0, 1}, as == lane ? 1 : 0, as == lane ? 0 : CAST);
                reads(x, new int[] {0, as, 1, 1}, 0, as == lane ? INDEX : CAST);
                x.lie(0);
            }
            Due.due("sheet(0, " + lane + ", -1)", x.sheet(0, lane, -1), -14);
        }
    }

    private static void torn() {
        Due.edge("The FAULT of the latest read() that came to an end; 0.");
        NoSquare x = new NoSquare();
        Due.due("torn() at first", x.torn(), 0);
        x.sheet(0, 0, 1);
        int[][] torn = {{1, 0, 0, 1, NULL}, {0, 0, 1, 1, INDEX}, {0, 1, 0, 1, CAST}};
        for (int[] row : torn) {
            reads(x, row, 0, row[4]);
            // one that is BAD, or refused, comes to no end; others than read() are nothing to it
            reads(x, new int[] {4, 0, 0, 1}, BAD, row[4]);
            reads(x, new int[] {0, 0, 0, 21}, BAD, row[4]);
            x.take(0);
            reads(x, new int[] {0, 0, 0, 1}, -20, row[4]);
            x.lie(0);
            x.lay(3, 0, 0);
            x.sheet(0, 0, -1);
            x.text();
            x.keep(0);
            x.back(0);
            Due.due("torn() behind other calls", x.torn(), row[4]);
            reads(x, new int[] {0, 0, 0, 1}, 1, 0);
            x.lie(0);
            reads(x, row, 0, row[4]);
            // of no match nothing is read, so nothing is refused
            reads(x, new int[] {row[0], row[1], row[2], 0}, 0, 0);
        }
    }

    private static void count() {
        Due.edge("How many: 0 MATCHES that LIE, 1 SIZES that were SEEN, 2 IMAGES, 3 bytes on THE TAPE, 4 CELLS of SHEET"
                + " 0 (NONE: nothing), 5 COSTS of those that LIE, summed. BAD.");
        NoSquare x = large();
        Due.each("count", x::count, BAD, -1, 6, 32, LOW, TOP);
        int[] least = {31, 0, 0, 0, NONE, 31};
        for (int what = 0; what < 6; what++) {
            Due.due("count(" + what + ")", x.count(what), least[what]);
        }
        x.sheet(1, 0, 5);
        Due.due("count(4) is of sheet 0 alone", x.count(4), NONE);
        x.sheet(0, 0, 0);
        Due.due("count(4) of no cells", x.count(4), 0);
        for (int m = 0; m < 31; m++) {
            x.price(m, 9);
        }
        for (int size = 1; size <= 3; size++) {
            x.see(size, 0);
            Due.due("count(1)", x.count(1), size);
        }
        for (int i = 0; i < 40; i++) {
            x.feed(0);
        }
        x.keep(1);
        Due.due("count(2)", x.count(2), 1);
        x.keep(0);
        x.sheet(0, 2, 40);
        int[] most = {31, 3, 2, 320, 40, 279};
        for (int what = 0; what < 6; what++) {
            Due.due("count(" + what + ")", x.count(what), most[what]);
        }
        for (int m = 0; m < 31; m++) {
            x.take(m);
            Due.due("count(0)", x.count(0), 30 - m);
            Due.due("count(5)", x.count(5), 9 * (30 - m));
        }
    }

    private static void lastCall() {
        Due.edge("An object is used for at most 512 calls after it has been made; what later calls answer is free.");
        NoSquare x = new NoSquare();
        for (int i = 0; i < 128; i++) {
            Due.due("sheet(0, 2, 40) as call " + 4 * i, x.sheet(0, 2, 40), 1);
            Due.due("lay(0, 39, 4)", x.lay(0, 39, 4), 1);
            Due.due("read(0, 2, 39, 1)", x.read(0, 2, 39, 1), 1);
            Due.due("lie(4)", x.lie(4), 5);
        }
        NoSquare y = large();
        for (int i = 0; i < 500; i++) {
            Due.due("fewest(2) as call " + i, y.fewest(2), 124);
        }
    }

    public static void main(String[] args) throws Exception {
        sheets();
        newSheet();
        layFaults();
        lowestBits();
        readBounds();
        readBad();
        readRefused();
        readTorn();
        everyLane();
        torn();
        count();
        lastCall();
        Due.finish(args);
    }
}
