/** The sentences on the grid, the tape and the text that name a boundary: promises 1 to 5. */
public final class EdgesOfText {
    private static final int BAD = Due.BAD, FULL = Due.FULL, NONE = Due.NONE;
    private static final int LOW = Due.LOW, TOP = Due.TOP;
    private static final long BLANKS = 0x2020202020202020L;

    /** Of each grid: wide, high, matches, squares of the sizes 1, 2, 3. */
    private static final int[][] GRIDS = {
        {1, 1, 4, 1, 0, 0}, {2, 1, 7, 2, 0, 0}, {3, 1, 10, 3, 0, 0}, {4, 1, 13, 4, 0, 0},
        {1, 2, 7, 2, 0, 0}, {2, 2, 12, 4, 1, 0}, {3, 2, 17, 6, 2, 0}, {4, 2, 22, 8, 3, 0},
        {1, 3, 10, 3, 0, 0}, {2, 3, 17, 6, 2, 0}, {3, 3, 24, 9, 4, 1}, {4, 3, 31, 12, 6, 2},
    };

    /** Where a number can stand: what is ahead of it, its bounds. */
    private static final Object[][] NUMBERS = {
        {"grid", 1, 4}, {"grid 4", 1, 3}, {"gone", 0, 30}, {"cost", 0, 30}, {"cost 30", 1, 9}, {"size", 1, 3},
        {"seen", 1, 3}, {"seen 3", 0, 12}, {"gone 7;gone", 0, 30}, {"cost 7 1;cost", 0, 30},
    };

    /** What is ahead, then the tokens that can not stand behind it. */
    private static final String[][] OUT_OF_PLACE = {
        {"", ";", "1", "a", "gri", "grids", "gon", "gones", "cos", "costs", "siz", "sizes", "see", "seens", "z"},
        {"grid 2 2;", ";", "1", "a"}, {"gone 1;", ";", "1", "a"}, {"cost 1 1;", ";", "1", "a"},
        {"size 1;", ";", "1", "a"}, {"seen 1 1;", ";", "1", "a"},
        {"grid", ";", "a", "grid"}, {"grid 2", ";", "a", "grid"}, {"grid 2 2", "2", "a", "gone"},
        {"gone", ";", "a", "gone"}, {"gone 1", "a", "gone"}, {"gone 1 2", "a", "size"},
        {"cost", ";", "a", "cost"}, {"cost 1", ";", "a", "cost"}, {"cost 1 1", "1", "a", "cost"},
        {"size", ";", "a", "size"}, {"size 1", "a", "size"}, {"size 1 2 3", "a", "size"},
        {"seen", ";", "a", "seen"}, {"seen 1", ";", "a", "seen"}, {"seen 1 1", "1", "a", "seen"},
    };

    private static String oneByte(int b) {
        return String.valueOf((char) b);
    }

    private static boolean within(int b, char low, char high) {
        return b >= low && b <= high;
    }

    // ---- the grid

    private static void newObject() {
        Due.edge("A GRID of 2 by 2, all MATCHES LIE; SHEETS of nothing.");
        NoSquare x = new NoSquare();
        int[] rules = {2, 2, 12, 5, 4095, 14};
        int[] counted = {12, 0, 0, 0, NONE, 12};
        for (int i = 0; i < 6; i++) {
            Due.due("rule(" + i + ")", x.rule(i), rules[i]);
            Due.due("count(" + i + ")", x.count(i), counted[i]);
        }
        for (int k = 0; k < 4; k++) {
            Due.due("lay(" + k + ", 0, 0)", x.lay(k, 0, 0), -11);
        }
    }

    private static void boundsOfTheGrid() {
        Due.edge("THE GRID is WIDE (1 to 4) by HIGH (1 to 3) fields; 2 by 2 at first.");
        for (int[] grid : GRIDS) {
            NoSquare x = Due.taken("grid " + grid[0] + " " + grid[1] + ";", 1);
            Due.due("rule(0)", x.rule(0), grid[0]);
            Due.due("rule(1)", x.rule(1), grid[1]);
            Due.due("rule(2)", x.rule(2), grid[2]);
            Due.due("rule(4)", x.rule(4), (1L << grid[2]) - 1);
        }
        for (int n = 1; n <= 4; n++) {
            Due.faulty("grid 0 " + n + ";", 3, 5);
            Due.faulty("grid 5 " + n + ";", 3, 5);
            Due.faulty("grid " + n + " 0;", 3, 7);
            Due.faulty("grid " + n + " 4;", 3, 7);
        }
    }

    private static void atFirst() {
        Due.edge("A MATCH LIES (all at first) or not; it has a COST (1 to 9; 1).");
        for (int[] grid : GRIDS) {
            NoSquare x = Due.taken("grid " + grid[0] + " " + grid[1] + ";", 1);
            for (int m = 0; m < grid[2]; m++) {
                Due.due("lie(" + m + ")", x.lie(m), Due.STATE);
                Due.due("cost(" + m + ")", x.cost(m), 1);
                Due.due("price(" + m + ", 9)", x.price(m, 9), 1);
                Due.due("price(" + m + ", 10)", x.price(m, 10), BAD);
                Due.due("price(" + m + ", 0)", x.price(m, 0), BAD);
                Due.due("price(" + m + ", 1)", x.price(m, 1), 9);
            }
            Due.due("cost(" + grid[2] + ")", x.cost(grid[2]), BAD);
            Due.due("lie(" + grid[2] + ")", x.lie(grid[2]), BAD);
            Due.due("count(0)", x.count(0), grid[2]);
            Due.due("count(5)", x.count(5), grid[2]);
        }
        Due.edge("SIZES that COUNT (all at first).");
        Due.due("rule(5) at first", new NoSquare().rule(5), 14);
        for (int[] grid : GRIDS) {
            NoSquare x = Due.taken("grid " + grid[0] + " " + grid[1] + ";", 1);
            Due.due("rule(5)", x.rule(5), 14);
            Due.due("left()", x.left(), grid[3] + grid[4] + grid[5]);
        }
    }

    private static void squaresAsFarAsThereIsRoom() {
        Due.edge("by SIZE (1, 2, 3: so many MATCHES on each side, as far as there is room)");
        for (int[] grid : GRIDS) {
            NoSquare x = Due.taken("grid " + grid[0] + " " + grid[1] + ";", 1);
            Due.due("rule(3)", x.rule(3), grid[3] + grid[4] + grid[5]);
            for (int size = 1; size <= 3; size++) {
                Due.due("whole(" + size + ")", x.whole(size), grid[2 + size]);
            }
            int q = 0;
            for (int size = 1; size <= 3; size++) {
                for (int row = 0; row + size <= grid[1]; row++) {
                    for (int place = 0; place + size <= grid[0]; place++, q++) {
                        Due.due("square(" + q + ", 0)", x.square(q, 0), size);
                        Due.due("square(" + q + ", 1)", x.square(q, 1), row);
                        Due.due("square(" + q + ", 2)", x.square(q, 2), place);
                        Due.due("sides of " + q, Integer.bitCount(x.square(q, 3)), 4 * size);
                    }
                }
            }
            Due.due("square(" + q + ", 0)", x.square(q, 0), BAD);
        }
    }

    private static void placesInTheirOrder() {
        Due.edge("behind them those that stand, row by row (rows 0 to HIGH less 1, in each WIDE and 1).");
        NoSquare x = Due.taken("grid 4 3;", 1);
        // the first and the last square of each size
        Due.due("square(0, 3)", x.square(0, 3), 1 | 1 << 4 | 1 << 16 | 1 << 17);
        Due.due("square(11, 3)", x.square(11, 3), 1 << 11 | 1 << 15 | 1 << 29 | 1 << 30);
        Due.due("square(12, 3)", x.square(12, 3), 3 | 3 << 8 | 1 << 16 | 1 << 21 | 1 << 18 | 1 << 23);
        Due.due("square(17, 3)", x.square(17, 3), 3 << 6 | 3 << 14 | 1 << 23 | 1 << 28 | 1 << 25 | 1 << 30);
        Due.due("square(18, 3)", x.square(18, 3), 7 | 7 << 12 | 0x421 << 16 | 0x421 << 19);
        Due.due("square(19, 3)", x.square(19, 3), 14 | 14 << 12 | 0x421 << 17 | 0x421 << 20);
        NoSquare thin = Due.taken("grid 1 3;", 1);
        Due.due("square(2, 3)", thin.square(2, 3), 1 << 2 | 1 << 3 | 1 << 8 | 1 << 9);
        NoSquare flat = Due.taken("grid 4 1;", 1);
        Due.due("square(3, 3)", flat.square(3, 3), 1 << 3 | 1 << 7 | 1 << 11 | 1 << 12);
    }

    private static void wholeByTheRimAlone() {
        Due.edge("A SQUARE is WHOLE, if all 4 times SIZE MATCHES on its rim LIE.");
        NoSquare x = Due.taken("grid 4 3;", 1);
        for (int m = 0; m < 31; m++) {
            x.take(m);
            for (int q = 0; q < 20; q++) {
                Due.due("square(" + q + ", 4) without " + m, x.square(q, 4), 1 - (x.square(q, 3) >> m & 1));
            }
            x.lie(m);
        }
    }

    // ---- the tape

    private static void eightBytesTheHighestFirst() {
        Due.edge("Eight bytes come behind THE TAPE, the highest first: how many it has.");
        NoSquare x = new NoSquare();
        Due.due("feed(grid 4 1)", x.feed(0x6772696420342031L), 8);
        Due.due("feed(;)", x.feed(0x3b20202020202020L), 16);
        Due.due("text()", x.text(), 1);
        Due.due("rule(2)", x.rule(2), 13);
        // the lowest byte, and one above 127, come as they are
        x.feed(0x20202020202020ffL);
        Due.due("text()", x.text(), -17);
        x.feed(0xff20202020202020L);
        Due.due("text()", x.text(), -10);
        Due.due("fault()", x.fault(), 1);
        // behind a tape whose length is not of eights
        x.feed(0x676f6e6520312020L);
        x.end(6);
        Due.due("feed( 2;)", x.feed(0x20323b2020202020L), 14);
        Due.due("text()", x.text(), 1);
        Due.due("rule(4)", x.rule(4), 4095 - 6);
    }

    private static void fullTape() {
        Due.edge("FULL: more than 320.");
        NoSquare x = new NoSquare();
        for (int i = 1; i <= 40; i++) {
            Due.due("feed(blanks)", x.feed(BLANKS), 8 * i);
        }
        Due.due("feed(0)", x.feed(0), FULL);
        Due.due("count(3)", x.count(3), 320);
        for (int n = 320; n > 312; n--) {
            x.end(n);
            Due.due("feed(0) behind " + n, x.feed(0), FULL);
            Due.due("count(3)", x.count(3), n);
        }
        x.end(312);
        Due.due("feed(blanks) behind 312", x.feed(BLANKS), 320);
        // nothing of what was refused is on the tape
        Due.due("text()", x.text(), 0);
        Due.due("feed(blanks)", x.feed(BLANKS), 8);
    }

    private static void placesOfTheTape() {
        Due.edge("THE TAPE has 320 bytes, places from 0.");
        String blanks = " ".repeat(320);
        Due.faulty("#", 1, 0);
        Due.faulty(blanks.substring(1) + "#", 1, 319);
        Due.faulty(blanks.substring(4) + "gone", 2, 320);
        Due.faulty(blanks.substring(6) + "gone 1", 2, 320);
        Due.faulty(blanks.substring(8) + "gone 12;", 5, 320);
        NoSquare x = Due.taken(blanks.substring(8) + "gone 11;", 1);
        Due.due("rule(4)", x.rule(4), 2047);
        Due.taken(blanks, 0);
    }

    private static void endOfTheTape() {
        Due.edge("THE TAPE keeps its first n bytes: how many it had. BAD.");
        NoSquare x = new NoSquare();
        int[] not = {-1, LOW, 1, 320, TOP};
        for (int n : not) {
            Due.due("end(" + n + ") of nothing", x.end(n), BAD);
        }
        Due.due("end(0) of nothing", x.end(0), 0);
        Due.put(x, "gone 1 2;");
        Due.due("end(10)", x.end(10), BAD);
        Due.due("end(-1)", x.end(-1), BAD);
        Due.due("end(9)", x.end(9), 9);
        Due.due("end(8)", x.end(8), 9);
        Due.due("end(9)", x.end(9), BAD);
        Due.due("count(3)", x.count(3), 8);
        // what was cut off does not come back
        Due.due("text()", x.text(), -18);
        Due.due("end(1)", x.end(1), BAD);
        x.feed(BLANKS);
        Due.due("end(0)", x.end(0), 8);
        Due.due("end(0)", x.end(0), 0);
        for (int i = 0; i < 40; i++) {
            x.feed(BLANKS);
        }
        Due.due("end(321)", x.end(321), BAD);
        Due.due("end(320)", x.end(320), 320);
        Due.due("end(319)", x.end(319), 320);
        Due.due("end(0)", x.end(0), 319);
    }

    private static void emptyBehindText() {
        Due.edge("THE TAPE (empty then) tells all: how many lines; -10 less the place of its FAULT: that which was"
                + " told stays.");
        NoSquare x = Due.taken("gone 1;", 1);
        Due.due("count(3) behind one taken", x.count(3), 0);
        Due.put(x, "gone 2;gone #");
        Due.due("text()", x.text(), -22);
        Due.due("count(3) behind one refused", x.count(3), 0);
        Due.due("rule(4)", x.rule(4), 4095 - 2);
        Due.due("text() of nothing", x.text(), 0);
        Due.due("rule(4)", x.rule(4), 4095);
    }

    private static void latestFault() {
        Due.edge("The FAULT of the latest text(); 0.");
        NoSquare x = new NoSquare();
        Due.due("fault() at first", x.fault(), 0);
        String[] texts = {"#", "a", "size 4;", "size 1 1;", "gone 12;"};
        for (int i = 0; i < texts.length; i++) {
            Due.put(x, texts[i]);
            Due.due("fault() ahead of text()", x.fault(), i);
            x.text();
            Due.due("fault()", x.fault(), i + 1);
        }
        x.take(0);
        x.take(0);
        x.read(0, 0, 0, 1);
        Due.due("fault() behind other calls", x.fault(), 5);
        x.text();
        Due.due("fault() behind a text taken", x.fault(), 0);
    }

    // ---- tokens

    private static void everyByte() {
        Due.edge("NAMES (a .. z), NUMBERS (1 or 2 figures), one ; .");
        for (int b = 0; b < 256; b++) {
            boolean figure = within(b, '0', '9');
            boolean letter = within(b, 'a', 'z');
            if (b == 32) {
                Due.taken(oneByte(b), 0);
                Due.taken("gone 1" + oneByte(b) + "2;", 1);
            } else if (figure) {
                Due.faulty(oneByte(b), 2, 0);
                Due.faulty("gone 1" + oneByte(b) + "2;", 1, 5);
            } else if (letter) {
                Due.faulty(oneByte(b), 2, 0);
                Due.faulty("gone 1" + oneByte(b) + "2;", 2, 6);
                Due.faulty("gone" + oneByte(b) + "1;", 2, 0);
                Due.faulty(oneByte(b) + "gone 1;", 2, 0);
            } else if (b == ';') {
                Due.faulty(oneByte(b), 2, 0);
                Due.faulty("gone 1" + oneByte(b) + "2;", 2, 7);
            } else {
                Due.faulty(oneByte(b), 1, 0);
                Due.faulty("gone 1" + oneByte(b) + "2;", 1, 6);
                Due.faulty("gone" + oneByte(b) + "1;", 1, 4);
                Due.faulty("go" + oneByte(b) + "ne 1;", 2, 0);
            }
        }
    }

    private static void asLongAsMayBe() {
        Due.edge("TOKENS, each as long as may be, blanks (32) between");
        NoSquare x = Due.taken("gone10 1;", 1);
        Due.due("rule(4)", x.rule(4), 4095 - 2 - 1024);
        Due.taken("grid4 3;size1 2 3;seen1 12;seen2 0;cost30 9;", 5);
        Due.taken("   gone   1   2   ;   gone   3   ;   ", 2);
        Due.taken("grid 4 3 ;gone 1;", 2);
        Due.faulty("gonegone 1;", 2, 0);
        Due.faulty("go ne 1;", 2, 0);
        Due.faulty("gone 1;;", 2, 7);
        Due.faulty("gone 0000000001;", 1, 5);
        Due.faulty("gone 1 2 003;", 1, 9);
        x = Due.taken("gone 00 01 09;", 1);
        Due.due("rule(4)", x.rule(4), 4095 - 3 - 512);
        Due.faulty("gone 9 09;", 4, 7);
    }

    private static void noLine() {
        Due.edge("text: { line }");
        NoSquare x = Due.taken("", 0);
        Due.due("rule(2)", x.rule(2), 12);
        Due.taken(" ", 0);
        StringBuilder most = new StringBuilder("grid4 3;");
        for (int m = 0; m < 31; m++) {
            most.append("gone").append(m).append(';');
        }
        for (int size = 1; size <= 3; size++) {
            most.append("size").append(size).append(";seen").append(size).append(" 0;");
        }
        for (int m = 0; m < 7; m++) {
            most.append("cost").append(m).append(" 2;");
        }
        // so many lines as there can be within 320 bytes
        x = Due.taken(most.append(" ".repeat(320 - most.length())).toString(), 45);
        Due.due("rule(4)", x.rule(4), 0);
        Due.due("count(1)", x.count(1), 3);
        Due.due("cost(6)", x.cost(6), 2);
        Due.due("cost(7)", x.cost(7), 1);
    }

    // ---- faults

    private static void noToken() {
        Due.edge("1 no TOKEN, a NUMBER that is too long (its first byte).");
        for (String[] row : OUT_OF_PLACE) {
            Due.faulty(row[0] + " #", 1, row[0].length() + 1);
            Due.faulty(row[0] + "#;", 1, row[0].length());
            Due.faulty(row[0] + " 111;", 1, row[0].length() + 1);
            Due.faulty(row[0] + " 000", 1, row[0].length() + 1);
        }
        Due.faulty("111", 1, 0);
        Due.faulty("gone -1;", 1, 5);
    }

    private static void outOfPlace() {
        Due.edge("2 a TOKEN that can not stand there (a NAME that begins no line; or the end: the length).");
        for (String[] row : OUT_OF_PLACE) {
            for (int i = 1; i < row.length; i++) {
                Due.faulty(row[0] + " " + row[i], 2, row[0].length() + 1);
                Due.faulty(row[0] + " " + row[i] + " ;", 2, row[0].length() + 1);
            }
            boolean between = row[0].isEmpty() || row[0].endsWith(";");
            if (!between) {
                Due.faulty(row[0], 2, row[0].length());
                Due.faulty(row[0] + "   ", 2, row[0].length() + 3);
            }
        }
        Due.faulty("gone 1;x", 2, 7);
        Due.faulty("gone 1;gone", 2, 11);
    }

    private static void everyNumber() {
        Due.edge("3 a NUMBER out of its bounds.");
        for (Object[] row : NUMBERS) {
            String ahead = (String) row[0];
            for (int n = 0; n < 100; n++) {
                String text = ahead + " " + n + " #";
                boolean again = n == 7 && ahead.contains(";");
                if (n < (Integer) row[1] || n > (Integer) row[2]) {
                    Due.faulty(text, 3, ahead.length() + 1);
                } else if (again) {
                    Due.faulty(text, 4, ahead.length() + 1);
                } else {
                    Due.faulty(text, 1, text.length() - 1);
                }
            }
        }
        Due.faulty("gone 00 30 31;", 3, 11);
        Due.faulty("size 3 2 1 0;", 3, 11);
        Due.faulty("size 1 4;", 3, 7);
    }

    private static void goneBounds() {
        Due.edge("gone: MATCHES (0 to 30) that do not LIE.");
        NoSquare x = Due.taken("grid 4 3;gone 0 30;", 2);
        Due.due("rule(4)", x.rule(4), TOP - 1 - (1 << 30));
        x = Due.taken("grid 4 3;gone 30;gone 0;", 3);
        Due.due("rule(4)", x.rule(4), TOP - 1 - (1 << 30));
        Due.faulty("grid 4 3;gone 31;", 3, 14);
        StringBuilder all = new StringBuilder("grid 4 3;gone");
        for (int m = 0; m < 31; m++) {
            all.append(' ').append(m);
        }
        x = Due.taken(all + ";", 2);
        Due.due("rule(4)", x.rule(4), 0);
        Due.due("left()", x.left(), 0);
    }

    private static void costBounds() {
        Due.edge("cost: a MATCH, its COST.");
        NoSquare x = Due.taken("grid 4 3;cost 0 9;cost 30 1;cost 29 9;", 4);
        Due.due("cost(0)", x.cost(0), 9);
        Due.due("cost(1)", x.cost(1), 1);
        Due.due("cost(29)", x.cost(29), 9);
        Due.due("cost(30)", x.cost(30), 1);
        Due.faulty("cost 0 0;", 3, 7);
        Due.faulty("cost 0 10;", 3, 7);
        Due.faulty("cost 31 1;", 3, 5);
    }

    private static void sizeBounds() {
        Due.edge("size: SIZES (1 to 3) that COUNT, others do not.");
        int[] bits = {14, 2, 4, 6, 8, 10, 12, 14};
        String[] texts = {"", "size 1;", "size 2;", "size 2 1;", "size 3;", "size 1;size 3;", "size 3 2;", "size 3 1 2;"};
        for (int i = 0; i < texts.length; i++) {
            NoSquare x = new NoSquare();
            Due.put(x, texts[i]);
            x.text();
            Due.due("rule(5) of '" + texts[i] + "'", x.rule(5), bits[i]);
        }
        // where there is no room for a size it counts none the less
        NoSquare x = Due.taken("grid 1 1;size 3;", 2);
        Due.due("rule(5)", x.rule(5), 8);
        Due.due("left()", x.left(), 0);
    }

    private static void seenBounds() {
        Due.edge("seen: a SIZE, how many were SEEN (0 to 12).");
        NoSquare x = Due.taken("seen 1 0;seen 3 12;", 2);
        Due.due("see(1, NONE)", x.see(1, NONE), 0);
        Due.due("see(2, NONE)", x.see(2, NONE), NONE);
        Due.due("see(3, NONE)", x.see(3, NONE), 12);
        Due.faulty("seen 1 13;", 3, 7);
        Due.faulty("seen 0 1;", 3, 5);
        Due.faulty("seen 4 1;", 3, 5);
    }

    private static void toldAlready() {
        Due.edge("4 grid for the second time (its NAME); a MATCH that is gone already, whose COST is told already, a"
                + " SIZE told already (of size, of seen, each by itself) (it).");
        Due.faulty("grid 2 2;grid", 4, 9);
        Due.faulty("grid 2 2; grid 2 2;", 4, 10);
        Due.faulty("grid 1 1;gone 0;grid #", 4, 16);
        Due.faulty("gone 0 0", 4, 7);
        Due.faulty("gone 30 30", 4, 8);
        Due.faulty("gone 1 2;gone 3 2", 4, 16);
        Due.faulty("cost 0 1;cost 0", 4, 14);
        Due.faulty("cost 30 1;cost 30 1;", 4, 15);
        for (int size = 1; size <= 3; size++) {
            Due.faulty("size " + size + " " + size, 4, 7);
            Due.faulty("size " + size + ";size " + size, 4, 12);
            Due.faulty("seen " + size + " 0;seen " + size, 4, 14);
        }
        Due.taken("gone 1;cost 1 1;size 1;seen 1 1;", 4);
        Due.taken("seen 2 2;size 2;cost 2 2;gone 2;", 4);
        Due.taken("grid 4 3;cost 0 1;cost 1 1;cost 30 1;gone 0 1 30;", 5);
    }

    private static void noSuchMatch() {
        Due.edge("Behind all (the length): 5 a MATCH that there is not.");
        for (int[] grid : GRIDS) {
            String ahead = "grid " + grid[0] + " " + grid[1] + ";";
            for (int m = 0; m <= 30; m++) {
                String gone = ahead + "gone " + m + ";  ";
                String cost = "cost " + m + " 2;" + ahead;
                if (m < grid[2]) {
                    Due.due("rule(4)", Due.taken(gone, 2).rule(4), (1L << grid[2]) - 1 - (1L << m));
                    Due.due("cost(" + m + ")", Due.taken(cost, 2).cost(m), 2);
                } else {
                    Due.faulty(gone, 5, gone.length());
                    Due.faulty(cost, 5, cost.length());
                }
            }
        }
        Due.faulty("gone 12;", 5, 8);
        Due.faulty("gone 11;cost 12 1;", 5, 18);
        // the grid counts, wherever it is told; other faults are met ahead of this one
        Due.taken("gone 30;grid 4 3;", 2);
        Due.faulty("gone 30;grid 4 3", 2, 16);
        Due.faulty("gone 12;gone 12;", 4, 13);
        Due.faulty("gone 12; #", 1, 9);
    }

    private static void firstMet() {
        Due.edge("FAULTS, the first met as it is read (a TOKEN is read when the one before has been taken)");
        Due.faulty("gone 31#", 3, 5);
        Due.faulty("gone 31 111", 3, 5);
        Due.faulty("gone 1 1#", 4, 7);
        Due.faulty("a#", 2, 0);
        Due.faulty("a;grid 9", 2, 0);
        Due.faulty("grid 5 111;", 3, 5);
        Due.faulty("grid 2 2 2#", 2, 9);
        Due.faulty("cost 31 0;", 3, 5);
        Due.faulty("cost 1 1;cost 1 0;", 4, 14);
        Due.faulty("cost 1 0 0", 3, 7);
        Due.faulty("seen 1 1;seen 1 99;", 4, 14);
        Due.faulty("seen 4 99;", 3, 5);
        Due.faulty("grid 2 2;grid 0 0;", 4, 9);
        Due.faulty("gone 40;gone #", 3, 5);
        Due.faulty("size 1 1 4;", 4, 7);
        Due.faulty("size 4 4;", 3, 5);
    }

    private static void tellsAll() {
        Due.edge("A text that is taken tells all, in place of what there was; what was SEEN is as told in it alone;"
                + " IMAGES are gone.");
        NoSquare x = Due.taken("grid 3 2;gone 1 16;cost 2 7;size 2;seen 1 4;seen 2 1;", 6);
        x.keep(0);
        x.keep(1);
        x.sheet(2, 1, 9);
        Due.put(x, "seen 3 2;");
        Due.due("text()", x.text(), 1);
        int[] rules = {2, 2, 12, 5, 4095, 14};
        for (int i = 0; i < 6; i++) {
            Due.due("rule(" + i + ")", x.rule(i), rules[i]);
        }
        Due.due("cost(2)", x.cost(2), 1);
        Due.due("see(1, NONE)", x.see(1, NONE), NONE);
        Due.due("see(2, NONE)", x.see(2, NONE), NONE);
        Due.due("see(3, NONE)", x.see(3, NONE), 2);
        Due.due("count(2)", x.count(2), 0);
        Due.due("back(0)", x.back(0), Due.STATE);
        Due.due("back(1)", x.back(1), Due.STATE);
        Due.due("keep(0)", x.keep(0), 0);
        // sheets are told by no text
        Due.due("lay(2, 8, 0)", x.lay(2, 8, 0), 1);
    }

    private static void toldStays() {
        Due.edge("that which was told stays.");
        String[] texts = {"gone 3 #", "grid 1 1;a", "size 1;size 4;", "seen 1 1;grid 2 2;grid 2 2;", "grid 4 2;gone 30;"};
        for (String text : texts) {
            NoSquare x = Due.taken("grid 3 2;gone 1 16;cost 2 7;size 2;seen 1 4;", 5);
            x.keep(1);
            x.take(0);
            Due.put(x, text);
            Due.due("text() refuses '" + text + "'", x.text() <= -10 ? 1 : 0, 1);
            int[] rules = {3, 2, 17, 8, 0x1ffff - 3 - (1 << 16), 4};
            for (int i = 0; i < 6; i++) {
                Due.due("rule(" + i + ")", x.rule(i), rules[i]);
            }
            Due.due("cost(2)", x.cost(2), 7);
            Due.due("see(1, NONE)", x.see(1, NONE), 4);
            Due.due("count(2)", x.count(2), 1);
            Due.due("back(1)", x.back(1), 0);
            Due.due("rule(4)", x.rule(4), 0x1ffff - 2 - (1 << 16));
        }
    }

    public static void main(String[] args) throws Exception {
        newObject();
        boundsOfTheGrid();
        atFirst();
        squaresAsFarAsThereIsRoom();
        placesInTheirOrder();
        wholeByTheRimAlone();
        eightBytesTheHighestFirst();
        fullTape();
        placesOfTheTape();
        endOfTheTape();
        emptyBehindText();
        latestFault();
        everyByte();
        asLongAsMayBe();
        noLine();
        noToken();
        outOfPlace();
        everyNumber();
        goneBounds();
        costBounds();
        sizeBounds();
        seenBounds();
        toldAlready();
        noSuchMatch();
        firstMet();
        tellsAll();
        toldStays();
        Due.finish(args);
    }
}
