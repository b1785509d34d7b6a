import java.math.BigInteger;

/** The sentences on rules, changes, sets, games, coins and images that name a boundary: promises 6 to 31. */
public final class EdgesOfCalls {
    private static final int BAD = Due.BAD, STATE = Due.STATE, NONE = Due.NONE;
    private static final int LOW = Due.LOW, TOP = Due.TOP;

    /** Of each whole grid: wide, high, fewest matches, the least set, how many sets (counted by trying all). */
    private static final int[][] FEWEST = {
        {1, 1, 1, 1, 4}, {2, 1, 1, 32, 1}, {3, 1, 2, 132, 7}, {4, 1, 2, 2560, 1},
        {1, 2, 1, 2, 1}, {2, 2, 3, 13, 40}, {3, 2, 4, 58, 66}, {4, 2, 5, 17104, 88},
        {1, 3, 2, 5, 7}, {2, 3, 4, 54, 66}, {3, 3, 6, 469, 700}, {4, 3, 7, 9055488, 124},
    };

    /** Wide, high, a and b of a cost 1 + (a m + (b m m) % 9) % 9, the least cost, the least set (by trying all). */
    private static final int[][] CHEAPEST = {
        {2, 2, 7, 3, 5, 1027}, {2, 2, 5, 1, 9, 25}, {2, 2, 4, 8, 6, 25}, {2, 2, 2, 0, 7, 547}, {2, 2, 8, 5, 7, 2054},
        {3, 2, 7, 3, 9, 16419}, {3, 2, 5, 1, 13, 8369}, {3, 2, 4, 8, 11, 9264}, {3, 2, 2, 0, 8, 16419},
        {3, 2, 8, 5, 10, 18465}, {2, 3, 7, 3, 11, 21024}, {2, 3, 5, 1, 7, 8848}, {2, 3, 4, 8, 8, 8752},
        {2, 3, 2, 0, 10, 16932}, {2, 3, 8, 5, 10, 612}, {4, 2, 7, 3, 15, 279681}, {4, 2, 5, 1, 15, 74448},
        {4, 2, 4, 8, 16, 1065496}, {4, 2, 2, 0, 13, 279681}, {4, 2, 8, 5, 11, 1359873}, {3, 3, 7, 3, 16, 4457002},
        {3, 3, 5, 1, 12, 4489297}, {3, 3, 4, 8, 13, 4456988}, {3, 3, 2, 0, 16, 8651875}, {3, 3, 8, 5, 16, 280769},
    };

    /** In 3 by 3 without 0, 5 and 23: sizes that count (bits), n, k, how many moves, the first (by trying all). */
    private static final int[][] MOVES = {
        {14, 1, 5, 5, 16, 8388608}, {14, 1, 9, 3, 2048, 1}, {14, 1, 10, 0, NONE, NONE}, {14, 2, 4, 11, 10, 8388609},
        {14, 2, 9, 32, 2052, 33}, {14, 2, 3, 0, NONE, NONE}, {2, 1, 4, 13, 8, 1}, {2, 1, 7, 2, 2048, 32},
        {2, 2, 3, 16, 24, 8388609}, {2, 2, 7, 33, 2050, 33}, {4, 1, 1, 36, 2, 1}, {4, 1, 3, 2, 2048, 1},
        {4, 2, 0, 84, 10, 33}, {4, 2, 3, 5, 4160, 8388640}, {8, 1, 0, 63, 2, 1}, {8, 1, 1, 0, NONE, NONE},
        {8, 2, 0, 575, 6, 33}, {8, 2, 1, 55, 24, 8388609}, {12, 2, 0, 77, 10, 33}, {12, 2, 3, 20, 24, 8388609},
        {10, 1, 7, 2, 2048, 32}, {10, 2, 4, 100, 10, 8388609}, {0, 1, 0, 63, 2, 1}, {0, 2, 0, 630, 6, 33},
    };

    private static NoSquare grid(int wide, int high) {
        return Due.taken("grid " + wide + " " + high + ";", 1);
    }

    /** A grid where none lies. */
    private static NoSquare bare(int wide, int high) {
        NoSquare x = grid(wide, high);
        int matches = x.rule(2);
        for (int m = 0; m < matches; m++) {
            x.take(m);
        }
        return x;
    }

    private static NoSquare countingNothing() {
        NoSquare x = new NoSquare();
        for (int size = 1; size <= 3; size++) {
            x.counts(size, false);
        }
        return x;
    }

    private static NoSquare without(NoSquare x, int... matches) {
        for (int m : matches) {
            x.take(m);
        }
        return x;
    }

    // ---- the text, what it told

    private static void rule() {
        Due.edge("5 SIZES that COUNT (bits, 1 << SIZE). BAD.");
        NoSquare x = grid(4, 3);
        int[] rules = {4, 3, 31, 20, TOP, 14};
        for (int i = 0; i < 6; i++) {
            Due.due("rule(" + i + ")", x.rule(i), rules[i]);
        }
        Due.each("rule", x::rule, BAD, -1, 6, 32, LOW, TOP);
        Due.due("rule(4) where none lies", bare(4, 3).rule(4), 0);
        Due.due("rule(5) where none counts", countingNothing().rule(5), 0);
    }

    private static void square() {
        Due.edge("Of a SQUARE: 0 SIZE, 1 row, 2 place in it, 3 its MATCHES (a SET), 4 whether it is WHOLE. BAD.");
        int[][] last = {{1, 1, 0}, {2, 2, 4}, {4, 1, 3}, {3, 3, 13}, {4, 3, 19}};
        for (int[] grid : last) {
            NoSquare x = grid(grid[0], grid[1]);
            for (int what = 0; what < 5; what++) {
                int w = what;
                Due.each("square(.., " + w + ")", q -> x.square(q, w), BAD, -1, grid[2] + 1, 20, 32, LOW, TOP);
            }
            Due.each("square(q, ..)", what -> x.square(grid[2], what), BAD, -1, 5, LOW, TOP);
            Due.due("square(q, 4)", x.square(grid[2], 4), 1);
        }
        NoSquare x = new NoSquare();
        Due.due("square(4, 0)", x.square(4, 0), 2);
        Due.due("square(3, 1)", x.square(3, 1), 1);
        Due.due("square(3, 2)", x.square(3, 2), 1);
        Due.due("square(4, 4) without its rim", without(x, 11).square(4, 4), 0);
    }

    private static void cost() {
        Due.edge("COST of a MATCH. BAD.");
        NoSquare x = new NoSquare();
        Due.each("cost", x::cost, 1, 0, 11);
        Due.each("cost", x::cost, BAD, -1, 12, 30, 31, 32, LOW, TOP);
        NoSquare large = grid(4, 3);
        Due.each("cost", large::cost, 1, 0, 30);
        Due.each("cost", large::cost, BAD, -1, 31, 32, LOW, TOP);
        NoSquare small = grid(1, 1);
        Due.each("cost", small::cost, BAD, -1, 4);
    }

    private static void whole() {
        Due.edge("How many SQUARES of a SIZE are WHOLE. BAD (SIZES 1 to 3).");
        NoSquare x = grid(4, 3);
        Due.due("whole(1)", x.whole(1), 12);
        Due.due("whole(2)", x.whole(2), 6);
        Due.due("whole(3)", x.whole(3), 2);
        Due.each("whole", x::whole, BAD, -1, 0, 4, 33, LOW, TOP);
        Due.each("whole where none lies", bare(4, 3)::whole, 0, 1, 2, 3);
        NoSquare small = grid(1, 1);
        Due.due("whole(1) of 1 by 1", small.whole(1), 1);
        Due.each("whole without room", small::whole, 0, 2, 3);
        Due.due("whole(1) that does not count", countingNothing().whole(1), 4);
    }

    private static void left() {
        Due.edge("LEFT: how many SQUARES of SIZES that COUNT are WHOLE.");
        NoSquare x = grid(4, 3);
        Due.due("left() of all", x.left(), 20);
        x.counts(1, false);
        Due.due("left()", x.left(), 8);
        x.counts(3, false);
        Due.due("left()", x.left(), 6);
        Due.due("left() where none counts", countingNothing().left(), 0);
        Due.due("left() where none lies", bare(4, 3).left(), 0);
    }

    // ---- what is changed

    private static void take() {
        Due.edge("A MATCH is taken: LEFT then. BAD; STATE: it does not LIE.");
        NoSquare x = new NoSquare();
        Due.each("take", x::take, BAD, -1, 12, 31, 32, 44, LOW, TOP);
        Due.due("take(0)", x.take(0), 3);
        Due.due("take(0)", x.take(0), STATE);
        Due.due("take(11)", x.take(11), 2);
        Due.due("take(11)", x.take(11), STATE);
        Due.due("rule(4)", x.rule(4), 2046);
        NoSquare none = bare(4, 3);
        for (int m = 0; m < 31; m++) {
            Due.due("take(" + m + ") where none lies", none.take(m), STATE);
        }
        Due.due("take(31)", none.take(31), BAD);
        Due.due("take(30)", grid(4, 3).take(30), 17);
    }

    private static void lie() {
        Due.edge("A MATCH is laid: LEFT then. BAD; STATE: it LIES.");
        NoSquare x = new NoSquare();
        Due.each("lie", x::lie, STATE, 0, 11);
        Due.each("lie", x::lie, BAD, -1, 12, 31, 32, 44, LOW, TOP);
        without(x, 0, 11);
        Due.due("lie(0)", x.lie(0), 3);
        Due.due("lie(0)", x.lie(0), STATE);
        Due.due("lie(11)", x.lie(11), 5);
        Due.due("rule(4)", x.rule(4), 4095);
        NoSquare none = bare(4, 3);
        Due.each("lie", none::lie, BAD, -1, 31, 32);
        Due.each("lie", none::lie, 0, 0, 30);
    }

    private static void price() {
        Due.edge("COST of a MATCH becomes v: what it was. BAD.");
        NoSquare x = new NoSquare();
        Due.due("price(11, 9)", x.price(11, 9), 1);
        Due.due("price(11, 1)", x.price(11, 1), 9);
        Due.due("price(11, 2)", x.price(11, 2), 1);
        Due.each("price(11, ..)", v -> x.price(11, v), BAD, -1, 0, 10, LOW, TOP);
        Due.due("cost(11)", x.cost(11), 2);
        Due.each("price(.., 1)", m -> x.price(m, 1), BAD, -1, 12, 31, 32, LOW, TOP);
        x.take(0);
        Due.due("price(0, 5) of one that does not lie", x.price(0, 5), 1);
        Due.due("cost(0)", x.cost(0), 5);
        Due.due("price(30, 9) of 4 by 3", grid(4, 3).price(30, 9), 1);
    }

    private static void counts() {
        Due.edge("A SIZE COUNTS, or not: whether it did. BAD.");
        NoSquare x = new NoSquare();
        for (int size = 1; size <= 3; size++) {
            Due.due("counts(" + size + ", true)", x.counts(size, true), 1);
            Due.due("counts(" + size + ", false)", x.counts(size, false), 1);
            Due.due("counts(" + size + ", false)", x.counts(size, false), 0);
            Due.due("rule(5)", x.rule(5), 14 - (1 << size));
            Due.due("counts(" + size + ", true)", x.counts(size, true), 0);
            Due.due("rule(5)", x.rule(5), 14);
        }
        Due.each("counts(.., true)", size -> x.counts(size, true), BAD, -1, 0, 4, 33, LOW, TOP);
        Due.each("counts(.., false)", size -> x.counts(size, false), BAD, -1, 0, 4, 33, LOW, TOP);
        Due.due("rule(5)", x.rule(5), 14);
    }

    // ---- fewest

    private static void fewest() {
        Due.edge("To BREAK all: the fewest MATCHES (what 0), of SETS of so many the least (1), how many there are (2)."
                + " BAD.");
        for (int[] row : FEWEST) {
            NoSquare x = grid(row[0], row[1]);
            for (int what = 0; what < 3; what++) {
                Due.due("fewest(" + what + ") of " + row[0] + " by " + row[1], x.fewest(what), row[2 + what]);
            }
            Due.each("fewest", x::fewest, BAD, -1, 3, LOW, TOP);
        }
        NoSquare[] nothingLeft = {countingNothing(), bare(4, 3), without(grid(1, 1), 2), Due.taken("size 3;", 1)};
        for (NoSquare x : nothingLeft) {
            Due.due("fewest(0) of nothing", x.fewest(0), 0);
            Due.due("fewest(1) of nothing", x.fewest(1), 0);
            Due.due("fewest(2) of nothing", x.fewest(2), 1);
            Due.due("fewest(3) of nothing", x.fewest(3), BAD);
        }
    }

    private static void breakWhatLies() {
        Due.edge("To BREAK all: a SET of MATCHES that LIE, without which LEFT would be 0.");
        // without 5 and 0, the square on the right is left: its rim is 1, 3, 5, 6
        NoSquare x = without(grid(2, 1), 0);
        Due.due("fewest(0)", x.fewest(0), 1);
        Due.due("fewest(1)", x.fewest(1), 2);
        Due.due("fewest(2)", x.fewest(2), 4);
        Due.due("cheapest(1)", x.cheapest(1), 2);
        // a price of those that do not lie is nothing to it
        x.price(1, 9);
        x.price(3, 9);
        x.price(5, 8);
        x.price(6, 8);
        Due.due("cheapest(0)", x.cheapest(0), 8);
        Due.due("cheapest(1)", x.cheapest(1), 32);
    }

    private static void cheapest() {
        Due.edge("To BREAK all: the least COST (what 0), of such SETS the least (1). BAD.");
        NoSquare x = grid(2, 1);
        Due.due("cheapest(0)", x.cheapest(0), 1);
        Due.due("cheapest(1)", x.cheapest(1), 32);
        x.price(5, 2);
        Due.due("cheapest(0) of 1 and 1, or 2", x.cheapest(0), 2);
        Due.due("cheapest(1) of 1 and 1, or 2", x.cheapest(1), 3);
        x.price(5, 9);
        Due.due("cheapest(0)", x.cheapest(0), 2);
        Due.each("cheapest", x::cheapest, BAD, -1, 2, LOW, TOP);
        for (int[] row : CHEAPEST) {
            NoSquare priced = grid(row[0], row[1]);
            for (int m = 0; m < priced.rule(2); m++) {
                priced.price(m, 1 + (row[2] * m + row[3] * m * m % 9) % 9);
            }
            String of = " of " + row[0] + " by " + row[1] + ", " + row[2] + ", " + row[3];
            Due.due("cheapest(0)" + of, priced.cheapest(0), row[4]);
            Due.due("cheapest(1)" + of, priced.cheapest(1), row[5]);
        }
        // 0 and 3, or 1 and 10: both for 10
        NoSquare alike = Due.taken("gone 2;cost 1 9;cost 3 9;cost 4 9;cost 5 9;cost 6 9;cost 7 9;cost 8 9;cost 9 9;", 9);
        alike.price(11, 9);
        Due.due("cheapest(0)", alike.cheapest(0), 10);
        Due.due("cheapest(1)", alike.cheapest(1), 9);
        NoSquare dear = grid(4, 3);
        for (int m = 0; m < 31; m++) {
            dear.price(m, 9);
        }
        Due.due("cheapest(0) of all for 9", dear.cheapest(0), 63);
        Due.due("cheapest(1) of all for 9", dear.cheapest(1), 9055488);
        NoSquare[] nothingLeft = {countingNothing(), bare(4, 3), without(grid(1, 1), 2)};
        for (NoSquare none : nothingLeft) {
            Due.each("cheapest of nothing", none::cheapest, 0, 0, 1);
            Due.each("cheapest of nothing", none::cheapest, BAD, -1, 2);
        }
    }

    private static void withoutSet() {
        Due.edge("LEFT without a SET. BAD: also if not all of them LIE.");
        NoSquare x = new NoSquare();
        Due.due("without(0)", x.without(0), 5);
        Due.due("without(4095)", x.without(4095), 0);
        Due.each("without", x::without, BAD, 4096, 4097, 1 << 30, LOW, -1, TOP);
        x.take(3);
        Due.each("without", x::without, BAD, 8, 9, 4095, 8 | 4096);
        Due.due("without(4087)", x.without(4087), 0);
        Due.due("without(1)", x.without(1), 1);
        NoSquare large = grid(4, 3);
        Due.due("without(all)", large.without(TOP), 0);
        Due.due("without(1 << 30)", large.without(1 << 30), 17);
        Due.each("without", large::without, BAD, LOW, -1, LOW | 1);
        NoSquare none = bare(1, 1);
        Due.due("without(0) where none lies", none.without(0), 0);
        Due.due("without(1) where none lies", none.without(1), BAD);
    }

    private static void alike() {
        Due.edge("Whether two SETS are ALIKE (1, 0). BAD (of places, whether they LIE or not).");
        NoSquare x = new NoSquare();
        Due.each("alike(.., 0)", a -> x.alike(a, 0), BAD, 4096, 1 << 30, LOW, -1, TOP);
        Due.each("alike(0, ..)", b -> x.alike(0, b), BAD, 4096, 1 << 30, LOW, -1, TOP);
        Due.due("alike(-1, -1)", x.alike(-1, -1), BAD);
        Due.due("alike(4096, 4096)", x.alike(4096, 4096), BAD);
        Due.due("alike(0, 0)", x.alike(0, 0), 1);
        Due.due("alike(4095, 4095)", x.alike(4095, 4095), 1);
        Due.due("alike(0, 4095)", x.alike(0, 4095), 0);
        NoSquare none = bare(2, 2);
        Due.due("alike(1, 2) where none lies", none.alike(1, 2), 1);
        Due.due("alike(1, 4) where none lies", none.alike(1, 4), 0);
        NoSquare large = grid(4, 3);
        Due.due("alike(all, all)", large.alike(TOP, TOP), 1);
        Due.due("alike(1 << 30, 1 << 16)", large.alike(1 << 30, 1 << 16), 1);
        Due.due("alike(-1, -1)", large.alike(-1, -1), BAD);
        Due.due("alike(low, 0)", large.alike(LOW, 0), BAD);
    }

    private static void turns() {
        Due.edge("and, where WIDE is HIGH, quarter turns, any of them, one behind another (none: it is the other one).");
        NoSquare even = new NoSquare();
        // matches 0 and 7: itself, three turns of it, and their mirrors
        int[] same = {129, 130, 1024 + 16, 1024 + 32, 64 + 4, 256 + 8, 512 + 4, 2048 + 8};
        for (int b : same) {
            Due.due("alike(129, " + b + ")", even.alike(129, b), 1);
            Due.due("alike(" + b + ", 129)", even.alike(b, 129), 1);
        }
        Due.each("alike(129, ..)", b -> even.alike(129, b), 0, 5, 65, 257, 1, 128, 0, 131);
        NoSquare flat = grid(3, 2);
        // across stays across: a quarter turn is none of its mirrors
        Due.each("alike(1, ..)", b -> flat.alike(1, b), 1, 1, 4, 64, 256);
        Due.each("alike(1, ..)", b -> flat.alike(1, b), 0, 2, 8, 512, 4096, 1 << 16);
        NoSquare one = grid(1, 1);
        Due.each("alike(1, ..)", b -> one.alike(1, b), 1, 1, 2, 4, 8);
        Due.each("alike(3, ..)", b -> one.alike(3, b), 1, 3, 12);
        Due.each("alike(3, ..)", b -> one.alike(3, b), 0, 5, 6, 9, 10, 7);
        NoSquare three = grid(3, 3);
        Due.each("alike(1, ..)", b -> three.alike(1, b), 1, 1 << 2, 1 << 9, 1 << 11, 1 << 12, 1 << 15, 1 << 20, 1 << 23);
        Due.each("alike(1, ..)", b -> three.alike(1, b), 0, 1 << 1, 1 << 3, 1 << 13, 1 << 16, 1 << 22);
    }

    // ---- just so many

    private static void between() {
        Due.edge("How many can be LEFT without n MATCHES (0 to 4): bits (1 << LEFT). BAD; NONE: not so many LIE.");
        NoSquare x = grid(4, 3);
        Due.due("between(0)", x.between(0), 1 << 20);
        Due.each("between", x::between, BAD, -1, 5, LOW, TOP);
        NoSquare few = grid(1, 1);
        Due.due("between(0) of 4", few.between(0), 2);
        Due.each("between of 4", few::between, 1, 1, 2, 3, 4);
        few.take(0);
        Due.due("between(3) of 3", few.between(3), 1);
        Due.due("between(4) of 3", few.between(4), NONE);
        Due.due("between(5) of 3", few.between(5), BAD);
        NoSquare none = bare(1, 1);
        Due.due("between(0) of none", none.between(0), 1);
        Due.each("between of none", none::between, NONE, 1, 2, 3, 4);
        Due.each("between of none", none::between, BAD, -1, 5);
        Due.each("between where none counts", countingNothing()::between, 1, 0, 1, 2, 3, 4);
    }

    private static void just() {
        Due.edge("SETS of n MATCHES (0 to 4) that LIE, without which just k (0 to 20) are LEFT: how many (what 0), the"
                + " least (1). BAD; NONE (1): none.");
        NoSquare x = grid(4, 3);
        Due.due("just(0, 20, 0)", x.just(0, 20, 0), 1);
        Due.due("just(0, 20, 1)", x.just(0, 20, 1), 0);
        Due.due("just(0, 0, 0)", x.just(0, 0, 0), 0);
        Due.due("just(0, 0, 1)", x.just(0, 0, 1), NONE);
        Due.each("just(.., 0, 0)", n -> x.just(n, 0, 0), BAD, -1, 5, LOW, TOP);
        Due.each("just(0, .., 0)", k -> x.just(0, k, 0), BAD, -1, 21, LOW, TOP);
        Due.each("just(0, 0, ..)", what -> x.just(0, 0, what), BAD, -1, 2, LOW, TOP);
        NoSquare few = grid(1, 1);
        Due.due("just(4, 0, 0) of 4", few.just(4, 0, 0), 1);
        Due.due("just(4, 0, 1) of 4", few.just(4, 0, 1), 15);
        Due.due("just(3, 0, 0) of 4", few.just(3, 0, 0), 4);
        Due.due("just(3, 0, 1) of 4", few.just(3, 0, 1), 7);
        Due.due("just(1, 1, 0) of 4", few.just(1, 1, 0), 0);
        Due.due("just(1, 1, 1) of 4", few.just(1, 1, 1), NONE);
        few.take(2);
        Due.due("just(3, 0, 1) of 3", few.just(3, 0, 1), 11);
        Due.due("just(4, 0, 0) of 3", few.just(4, 0, 0), 0);
        Due.due("just(4, 0, 1) of 3", few.just(4, 0, 1), NONE);
        Due.due("just(5, 0, 1) of 3", few.just(5, 0, 1), BAD);
        NoSquare none = bare(1, 1);
        Due.due("just(0, 0, 0) of none", none.just(0, 0, 0), 1);
        Due.due("just(0, 0, 1) of none", none.just(0, 0, 1), 0);
        Due.due("just(1, 0, 1) of none", none.just(1, 0, 1), NONE);
        Due.due("just(4, 0, 0) where none counts", countingNothing().just(4, 0, 0), 495);
    }

    private static void riddle() {
        Due.edge("MOVES of n (1, 2) by which just k (0 to 20) are LEFT: how many (what 0); of the first by the SET"
                + " taken, then the SET laid, the former (1), the latter (2). BAD; NONE (1, 2): none.");
        NoSquare x = without(grid(4, 3), 0);
        Due.each("riddle(.., 0, 0)", n -> x.riddle(n, 0, 0), BAD, -1, 0, 3, LOW, TOP);
        Due.each("riddle(1, .., 0)", k -> x.riddle(1, k, 0), BAD, -1, 21, LOW, TOP);
        Due.each("riddle(1, 0, ..)", what -> x.riddle(1, 0, what), BAD, -1, 3, LOW, TOP);
        // whatever is taken, what is laid makes all of its squares whole again
        Due.due("riddle(1, 17, 1)", x.riddle(1, 17, 1), 1 << 3);
        Due.due("riddle(1, 17, 2)", x.riddle(1, 17, 2), 1);
        Due.due("riddle(1, 20, 0)", x.riddle(1, 20, 0), 0);
        Due.due("riddle(1, 20, 1)", x.riddle(1, 20, 1), NONE);
        Due.due("riddle(1, 20, 2)", x.riddle(1, 20, 2), NONE);
        // one place without, two are to be laid
        Due.due("riddle(2, 17, 0)", x.riddle(2, 17, 0), 0);
        Due.due("riddle(2, 17, 1)", x.riddle(2, 17, 1), NONE);
        // none to be taken, or no place: also with the most pairs there are, 465 of 31
        NoSquare[] stuck = {grid(1, 1), bare(1, 1), grid(4, 3), bare(4, 3), countingNothing()};
        for (NoSquare none : stuck) {
            for (int n = 1; n <= 2; n++) {
                Due.due("riddle(" + n + ", 0, 0) of none", none.riddle(n, 0, 0), 0);
                Due.due("riddle(" + n + ", 0, 1) of none", none.riddle(n, 0, 1), NONE);
                Due.due("riddle(" + n + ", 0, 2) of none", none.riddle(n, 0, 2), NONE);
            }
        }
        // one lies, two are to be taken
        NoSquare single = without(grid(1, 1), 0, 1, 2);
        Due.due("riddle(1, 0, 0) of one", single.riddle(1, 0, 0), 3);
        Due.due("riddle(1, 0, 1) of one", single.riddle(1, 0, 1), 8);
        Due.due("riddle(1, 0, 2) of one", single.riddle(1, 0, 2), 1);
        Due.due("riddle(2, 0, 0) of one", single.riddle(2, 0, 0), 0);
        NoSquare pairs = without(grid(1, 1), 0, 1);
        Due.due("riddle(2, 0, 0) of two", pairs.riddle(2, 0, 0), 1);
        Due.due("riddle(2, 0, 1) of two", pairs.riddle(2, 0, 1), 12);
        Due.due("riddle(2, 0, 2) of two", pairs.riddle(2, 0, 2), 3);
    }

    private static void moves() {
        Due.edge("A MOVE of n: n MATCHES that LIE are taken, then n are laid on places where none LIES (none of those"
                + " where they were).");
        NoSquare x = without(grid(2, 1), 0);
        Due.due("riddle(1, 1, 0)", x.riddle(1, 1, 0), 5);
        Due.due("riddle(1, 0, 0)", x.riddle(1, 0, 0), 1);
        Due.due("riddle(1, 2, 0)", x.riddle(1, 2, 0), 0);
        x.take(2);
        // of the five that lie two are taken, 0 and 2 are laid
        Due.due("riddle(2, 0, 0)", x.riddle(2, 0, 0), 7);
        Due.due("riddle(2, 1, 0)", x.riddle(2, 1, 0), 3);
        Due.due("riddle(2, 2, 0)", x.riddle(2, 2, 0), 0);
        NoSquare three = without(grid(3, 3), 0, 5, 23);
        for (int[] row : MOVES) {
            for (int size = 1; size <= 3; size++) {
                three.counts(size, (row[0] >> size & 1) != 0);
            }
            for (int what = 0; what < 3; what++) {
                String call = "riddle(" + row[1] + ", " + row[2] + ", " + what + ") of sizes " + row[0];
                Due.due(call, three.riddle(row[1], row[2], what), row[3 + what]);
            }
        }
    }

    // ---- games

    private static void taking() {
        Due.edge("BAD; STATE: nothing is LEFT, more than 12 LIE; NONE (1): he does not.");
        NoSquare x = grid(4, 1);
        Due.each("taking of 13", x::taking, STATE, 0, 1);
        Due.each("taking of 13", x::taking, BAD, -1, 2, LOW, TOP);
        x.take(12);
        Due.due("taking(0) of 12", x.taking(0), 2);
        Due.due("taking(1) of 12", x.taking(1), NONE);
        Due.each("taking of 12", x::taking, BAD, -1, 2, LOW, TOP);
        NoSquare twelve = new NoSquare();
        Due.due("taking(0) of 2 by 2", twelve.taking(0), 1);
        Due.due("taking(1) of 2 by 2", twelve.taking(1), 2);
        NoSquare[] nothingLeft = {countingNothing(), bare(4, 3), without(grid(1, 1), 3)};
        for (NoSquare none : nothingLeft) {
            Due.each("taking of nothing", none::taking, STATE, 0, 1);
            Due.each("taking of nothing", none::taking, BAD, -1, 2);
        }
        // of a large grid the last twelve alone: the lower right square and others
        NoSquare corner = grid(4, 3);
        for (int m = 0; m < 31; m++) {
            if (m != 11 && m != 15 && m < 21) {
                corner.take(m);
            }
        }
        Due.due("count(0)", corner.count(0), 12);
        Due.due("taking(0)", corner.taking(0), 1);
        Due.due("taking(1)", corner.taking(1), 11);
        corner.lie(0);
        Due.each("taking of 13", corner::taking, STATE, 0, 1);
    }

    private static void takingWins() {
        Due.edge("TAKING: two in turn take one MATCH that LIES each; who makes LEFT 0 by it has won (if it is above 0 at"
                + " first).");
        NoSquare x = grid(1, 1);
        Due.due("taking(0)", x.taking(0), 1);
        Due.due("taking(1)", x.taking(1), 0);
        // two squares apart: who breaks one of them has lost, and none is left to wait with
        NoSquare apart = without(grid(3, 1), 1, 4);
        Due.due("taking(0)", apart.taking(0), 2);
        Due.due("taking(1)", apart.taking(1), NONE);
        apart.lie(4);
        Due.due("taking(0) with one to wait", apart.taking(0), 1);
        Due.due("taking(1) with one to wait", apart.taking(1), 4);
        x.take(0);
        Due.due("taking(0) of nothing", x.taking(0), STATE);
    }

    private static void laying() {
        Due.edge("LAYING: who wins, both at their best (what 0: 1, 2; 0: nobody), the least MATCH with which the first"
                + " one does the best he can (1). BAD; STATE: all LIE, more than 12 places are without.");
        NoSquare all = new NoSquare();
        Due.each("laying where all lie", all::laying, STATE, 0, 1);
        Due.each("laying where all lie", all::laying, BAD, -1, 2, LOW, TOP);
        all.take(11);
        Due.due("laying(0) of one place", all.laying(0), 1);
        Due.due("laying(1) of one place", all.laying(1), 11);
        Due.each("laying of one place", all::laying, BAD, -1, 2, LOW, TOP);
        NoSquare none = bare(2, 2);
        Due.due("laying(0) of 12 places", none.laying(0), 2);
        Due.due("laying(1) of 12 places", none.laying(1), 0);
        NoSquare wide = bare(4, 1);
        Due.each("laying of 13 places", wide::laying, STATE, 0, 1);
        Due.each("laying of 13 places", wide::laying, BAD, -1, 2);
        wide.lie(12);
        Due.due("laying(0) of 12 places", wide.laying(0), 1);
        Due.due("laying(1) of 12 places", wide.laying(1), 3);
        Due.each("laying of 31 places", bare(4, 3)::laying, STATE, 0, 1);
    }

    private static void layingWins() {
        Due.edge("who makes LEFT more than it was has won; none, if all LIE and nobody did.");
        NoSquare x = without(grid(1, 1), 1, 3);
        Due.due("laying(0) of two places", x.laying(0), 2);
        Due.due("laying(1) of two places", x.laying(1), 1);
        x.counts(1, false);
        Due.due("laying(0) where nothing counts", x.laying(0), 0);
        Due.due("laying(1) where nothing counts", x.laying(1), 1);
        NoSquare two = without(new NoSquare(), 0, 2, 6, 7);
        Due.due("laying(0)", two.laying(0), 1);
        Due.due("laying(1)", two.laying(1), 2);
        NoSquare given = without(new NoSquare(), 2, 3, 7, 10);
        Due.due("laying(0)", given.laying(0), 2);
        Due.due("laying(1)", given.laying(1), 2);
    }

    private static void boxes() {
        Due.edge("BOXES: the MARGIN and 100 (what 0), the least MATCH that is best (1). BAD; STATE: all LIE, more than"
                + " 12 places are without.");
        NoSquare all = new NoSquare();
        Due.each("boxes where all lie", all::boxes, STATE, 0, 1);
        Due.each("boxes where all lie", all::boxes, BAD, -1, 2, LOW, TOP);
        all.take(11);
        Due.due("boxes(0) of one place", all.boxes(0), 102);
        Due.due("boxes(1) of one place", all.boxes(1), 11);
        NoSquare none = bare(2, 2);
        Due.due("boxes(0) of 12 places", none.boxes(0), 103);
        Due.due("boxes(1) of 12 places", none.boxes(1), 0);
        NoSquare wide = bare(4, 1);
        Due.each("boxes of 13 places", wide::boxes, STATE, 0, 1);
        Due.each("boxes of 13 places", wide::boxes, BAD, -1, 2);
        wide.lie(12);
        Due.due("boxes(0) of 12 places", wide.boxes(0), 102);
        Due.due("boxes(1) of 12 places", wide.boxes(1), 1);
        Due.each("boxes of 31 places", bare(4, 3)::boxes, STATE, 0, 1);
        NoSquare nothing = without(countingNothing(), 4, 9);
        Due.due("boxes(0) where nothing counts", nothing.boxes(0), 100);
        Due.due("boxes(1) where nothing counts", nothing.boxes(1), 4);
    }

    private static void boxesToTheEnd() {
        Due.edge("whoever makes LEFT more has so many more of his own, and another turn; the MARGIN: how many more the"
                + " first one has, both at their best.");
        // all twenty squares are the first one's
        NoSquare most = without(grid(4, 3), 8, 9, 10, 11, 12, 13, 14, 15, 16, 17, 18, 19);
        Due.due("boxes(0)", most.boxes(0), 120);
        Due.due("boxes(1)", most.boxes(1), 8);
        NoSquare below = without(new NoSquare(), 2, 3, 7, 10);
        Due.due("boxes(0)", below.boxes(0), 96);
        Due.due("boxes(1)", below.boxes(1), 2);
        NoSquare even = without(new NoSquare(), 0, 2, 6, 7);
        Due.due("boxes(0)", even.boxes(0), 100);
        Due.due("boxes(1)", even.boxes(1), 2);
        NoSquare lost = without(grid(4, 3), 3, 7, 9, 23, 24, 28, 29, 30);
        Due.due("boxes(0)", lost.boxes(0), 85);
        Due.due("boxes(1)", lost.boxes(1), 3);
        NoSquare rim = without(new NoSquare(), 0, 1, 4, 5, 6, 8, 9, 11);
        Due.due("boxes(0)", rim.boxes(0), 101);
        Due.due("boxes(1)", rim.boxes(1), 0);
    }

    // ---- by coin

    private static void mean() {
        Due.edge("BY COIN: LEFT in the mean: 0, 1. BAD.");
        NoSquare x = grid(4, 3);
        Due.due("mean(0) of 4 by 3", x.mean(0), 1585);
        Due.due("mean(1) of 4 by 3", x.mean(1), 2048);
        Due.each("mean", x::mean, BAD, -1, 2, LOW, TOP);
        NoSquare one = grid(1, 1);
        Due.due("mean(0) of 1 by 1", one.mean(0), 1);
        Due.due("mean(1) of 1 by 1", one.mean(1), 16);
    }

    private static void lowestTerms() {
        Due.edge("Fractions are in lowest terms, the denominator above 0 (0 is 0 by 1).");
        NoSquare[] nothingLeft = {countingNothing(), bare(4, 3), without(grid(1, 1), 3)};
        for (NoSquare none : nothingLeft) {
            Due.due("mean(0) of nothing", none.mean(0), 0);
            Due.due("mean(1) of nothing", none.mean(1), 1);
            Due.due("chance(0) of nothing", none.chance(0), 1);
            Due.due("chance(1) of nothing", none.chance(1), 1);
        }
        NoSquare four = grid(4, 1);
        Due.due("mean(0) of 4 by 16", four.mean(0), 1);
        Due.due("mean(1) of 4 by 16", four.mean(1), 4);
        NoSquare large = Due.taken("grid 4 3;size 3;", 2);
        Due.due("mean(0) of 2 by 4096", large.mean(0), 1);
        Due.due("mean(1) of 2 by 4096", large.mean(1), 2048);
        // more coins than the rim has
        NoSquare right = without(grid(2, 1), 0);
        Due.due("chance(0)", right.chance(0), 15);
        Due.due("chance(1)", right.chance(1), 16);
    }

    private static void chance() {
        Due.edge("BY COIN: that nothing is LEFT: 0, 1. BAD; STATE: more than 16 LIE.");
        NoSquare x = grid(3, 2);
        Due.each("chance of 17", x::chance, STATE, 0, 1);
        Due.each("chance of 17", x::chance, BAD, -1, 2, LOW, TOP);
        x.take(3);
        Due.due("chance(0) of 16", x.chance(0), 12809);
        Due.due("chance(1) of 16", x.chance(1), 16384);
        Due.each("chance of 16", x::chance, BAD, -1, 2, LOW, TOP);
        NoSquare high = without(grid(2, 3), 16);
        Due.due("chance(0) of 16", high.chance(0), 6043);
        Due.due("chance(1) of 16", high.chance(1), 8192);
        NoSquare one = grid(1, 1);
        Due.due("chance(0) of 1 by 1", one.chance(0), 15);
        Due.due("chance(1) of 1 by 1", one.chance(1), 16);
        Due.each("chance of 31", grid(4, 3)::chance, STATE, 0, 1);
    }

    // ---- seen

    private static void see() {
        Due.edge("Of a SIZE so many (0 to 12) were SEEN; NONE: it was not: what was so (NONE). BAD.");
        NoSquare x = grid(1, 1);
        for (int size = 1; size <= 3; size++) {
            int s = size;
            Due.due("see(" + s + ", NONE)", x.see(s, NONE), NONE);
            Due.due("see(" + s + ", 0)", x.see(s, 0), NONE);
            Due.due("see(" + s + ", 12)", x.see(s, 12), 0);
            Due.each("see(" + s + ", ..)", n -> x.see(s, n), BAD, 13, -1, -2, -3, -5, LOW, TOP);
            Due.due("count(1)", x.count(1), 1);
            Due.due("see(" + s + ", NONE)", x.see(s, NONE), 12);
            Due.due("see(" + s + ", NONE)", x.see(s, NONE), NONE);
            Due.due("count(1)", x.count(1), 0);
        }
        Due.each("see(.., 1)", size -> x.see(size, 1), BAD, -1, 0, 4, 33, LOW, TOP);
        Due.each("see(.., NONE)", size -> x.see(size, NONE), BAD, -1, 0, 4, LOW, TOP);
    }

    private static void gone() {
        Due.edge("GONE of n (0 to 4): SETS, how many (what 0), the least (1), MATCHES that are in all (2; a SET). BAD;"
                + " NONE (1, 2): none.");
        NoSquare x = new NoSquare();
        Due.each("gone(.., 0)", n -> x.gone(n, 0), BAD, -1, 5, LOW, TOP);
        Due.each("gone(0, ..)", what -> x.gone(0, what), BAD, -1, 3, LOW, TOP);
        int[] sets = {1, 12, 66, 220, 495};
        int[] least = {0, 1, 3, 7, 15};
        for (int n = 0; n <= 4; n++) {
            Due.due("gone(" + n + ", 0) of nothing seen", x.gone(n, 0), sets[n]);
            Due.due("gone(" + n + ", 1) of nothing seen", x.gone(n, 1), least[n]);
            Due.due("gone(" + n + ", 2) of nothing seen", x.gone(n, 2), 0);
        }
        NoSquare few = grid(1, 1);
        Due.due("gone(4, 2) of 4", few.gone(4, 2), 15);
        few.take(1);
        Due.due("gone(4, 0) of 3", few.gone(4, 0), 0);
        Due.due("gone(4, 1) of 3", few.gone(4, 1), NONE);
        Due.due("gone(4, 2) of 3", few.gone(4, 2), NONE);
        Due.due("gone(3, 1) of 3", few.gone(3, 1), 13);
        Due.due("gone(3, 2) of 3", few.gone(3, 2), 13);
        NoSquare none = bare(4, 3);
        Due.due("gone(0, 0) of none", none.gone(0, 0), 1);
        Due.due("gone(0, 1) of none", none.gone(0, 1), 0);
        Due.due("gone(0, 2) of none", none.gone(0, 2), 0);
        Due.due("gone(1, 2) of none", none.gone(1, 2), NONE);
        Due.due("gone(5, 2) of none", none.gone(5, 2), BAD);
    }

    private static void goneAsSeen() {
        Due.edge("GONE of n: a SET of n MATCHES that LIE, without which it is so for each SIZE that was SEEN.");
        NoSquare x = new NoSquare();
        x.see(1, 4);
        Due.due("gone(0, 0)", x.gone(0, 0), 1);
        Due.due("gone(1, 0)", x.gone(1, 0), 0);
        x.see(2, 0);
        Due.due("gone(0, 0)", x.gone(0, 0), 0);
        Due.due("gone(0, 1)", x.gone(0, 1), NONE);
        x.see(1, 3);
        Due.due("gone(1, 0)", x.gone(1, 0), 8);
        Due.due("gone(1, 1)", x.gone(1, 1), 1);
        Due.due("gone(1, 2)", x.gone(1, 2), 0);
        // without 0, the rest of its own square is 2, 6, 7: 6 is on the large one too
        x.see(1, 0);
        x.see(2, 1);
        Due.due("gone(2, 0)", x.gone(2, 0), 2);
        Due.due("gone(2, 1)", x.gone(2, 1), 12);
        Due.due("gone(2, 2)", x.gone(2, 2), 0);
        x.see(3, 0);
        Due.due("gone(2, 0) with none of size 3", x.gone(2, 0), 2);
        x.see(3, 1);
        Due.due("gone(2, 0) with one of size 3", x.gone(2, 0), 0);
        x.see(3, NONE);
        // whether it counts or not
        x.counts(1, false);
        x.counts(2, false);
        Due.due("gone(2, 0) where nothing counts", x.gone(2, 0), 2);
        x.see(1, 12);
        Due.due("gone(4, 0) of more than there are", x.gone(4, 0), 0);
        Due.due("gone(4, 2) of more than there are", x.gone(4, 2), NONE);
    }

    private static void play() {
        Due.edge("it is taken, if it LIES), n 0 to 60: LEFT then. BAD.");
        int[] seeds = {0, 1, -1, LOW, TOP, 1103515245, -1103515245, 0x7fff0000, 123456789};
        int[][] grids = {{2, 2}, {4, 3}, {1, 1}};
        for (int[] g : grids) {
            NoSquare x = without(grid(g[0], g[1]), 1);
            int lying = x.rule(4);
            for (int seed : seeds) {
                BigInteger drawn = BigInteger.valueOf(seed);
                int set = 0;
                for (int n = 0; n <= 60; n++) {
                    if (n < 5 || n == 59 || n == 60) {
                        Due.due("play(" + seed + ", " + n + ")", x.play(seed, n), x.without(set & lying));
                    }
                    drawn = drawn.multiply(BigInteger.valueOf(1103515245)).add(BigInteger.valueOf(12345));
                    int bits = drawn.shiftRight(16).intValue() & 0x7fff;
                    set |= 1 << bits % x.rule(2);
                }
            }
            Due.each("play(1, ..)", n -> x.play(1, n), BAD, -1, 61, LOW, TOP);
            Due.due("rule(4)", x.rule(4), lying);
        }
        Due.due("play(0, 0)", new NoSquare().play(0, 0), 5);
    }

    // ---- images

    private static void keep() {
        Due.edge("IMAGE k (0, 1) is MATCHES that LIE, COSTS, SIZES that COUNT, what was SEEN: whether there was one (1,"
                + " 0). BAD.");
        NoSquare x = new NoSquare();
        Due.each("keep", x::keep, BAD, -1, 2, 32, LOW, TOP);
        Due.due("count(2)", x.count(2), 0);
        Due.due("keep(1)", x.keep(1), 0);
        Due.due("keep(0)", x.keep(0), 0);
        Due.each("keep", x::keep, 1, 0, 1);
        Due.due("count(2)", x.count(2), 2);
        // the later image is in place of the one before
        x.take(0);
        x.price(11, 9);
        x.counts(3, false);
        x.see(3, 12);
        x.keep(1);
        x.back(0);
        int[] first = {4095, 14, 1, NONE};
        int[] second = {4094, 6, 9, 12};
        for (int k = 0; k < 2; k++) {
            int[] want = k == 0 ? first : second;
            x.back(k);
            Due.due("rule(4) of " + k, x.rule(4), want[0]);
            Due.due("rule(5) of " + k, x.rule(5), want[1]);
            Due.due("cost(11) of " + k, x.cost(11), want[2]);
            Due.due("see(3, 1) of " + k, x.see(3, 1), want[3]);
        }
    }

    private static void back() {
        Due.edge("All is as IMAGE k: LEFT. BAD; STATE: there is none.");
        NoSquare x = new NoSquare();
        Due.each("back", x::back, STATE, 0, 1);
        Due.each("back", x::back, BAD, -1, 2, 32, LOW, TOP);
        x.take(0);
        x.keep(1);
        Due.due("back(0)", x.back(0), STATE);
        x.take(1);
        x.price(5, 5);
        x.counts(1, false);
        x.see(2, 2);
        Due.due("back(1)", x.back(1), 3);
        Due.due("rule(4)", x.rule(4), 4094);
        Due.due("cost(5)", x.cost(5), 1);
        Due.due("rule(5)", x.rule(5), 14);
        Due.due("count(1)", x.count(1), 0);
        // what is changed behind it is not changed in the image
        x.take(2);
        x.price(5, 6);
        x.see(2, 3);
        Due.due("back(1)", x.back(1), 3);
        Due.due("cost(5)", x.cost(5), 1);
        Due.due("see(2, NONE)", x.see(2, NONE), NONE);
        x.text();
        Due.each("back behind a text", x::back, STATE, 0, 1);
    }

    public static void main(String[] args) throws Exception {
        rule();
        square();
        cost();
        whole();
        left();
        take();
        lie();
        price();
        counts();
        fewest();
        breakWhatLies();
        cheapest();
        withoutSet();
        alike();
        turns();
        between();
        just();
        riddle();
        moves();
        taking();
        takingWins();
        laying();
        layingWins();
        boxes();
        boxesToTheEnd();
        mean();
        lowestTerms();
        chance();
        see();
        gone();
        goneAsSeen();
        play();
        keep();
        back();
        Due.finish(args);
    }
}
