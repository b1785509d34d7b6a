import java.nio.charset.StandardCharsets;

/** Each promise of the document by itself: ordinary inputs, the edges, wrong inputs. */
public final class Promises {
    private static final int BAD = -1, STATE = -2, FULL = -3, NONE = -4;
    private static final int LOW = Integer.MIN_VALUE, TOP = Integer.MAX_VALUE;
    private static int wrong;
    private static int promise;

    private static void due(String call, long got, long want) {
        if (got != want) {
            wrong++;
            System.out.println("promise " + promise + ": " + call + " answered " + got + ", due is " + want);
        }
    }

    private static void put(NoSquare x, String text) {
        byte[] bytes = text.getBytes(StandardCharsets.ISO_8859_1);
        for (int i = 0; i < bytes.length; i += 8) {
            long v = 0;
            for (int j = 0; j < 8; j++) {
                v = v << 8 | (i + j < bytes.length ? bytes[i + j] & 255 : 0);
            }
            x.feed(v);
        }
        x.end(bytes.length);
    }

    private static NoSquare told(String text, int lines) {
        NoSquare x = new NoSquare();
        put(x, text);
        due("text() of " + text, x.text(), lines);
        due("fault() of " + text, x.fault(), 0);
        return x;
    }

    private static void refused(String text, int fault, int place) {
        NoSquare x = told("grid 3 2;gone 4;cost 5 6;size 1;seen 2 1;", 5);
        x.keep(1);
        put(x, text);
        due("text() of " + text, x.text(), -10 - place);
        due("fault() of " + text, x.fault(), fault);
        due("count(3) behind " + text, x.count(3), 0);
        due("rule(0) behind " + text, x.rule(0), 3);
        due("rule(4) behind " + text, x.rule(4), 0x1ffef);
        due("rule(5) behind " + text, x.rule(5), 2);
        due("cost(5) behind " + text, x.cost(5), 6);
        due("count(1) behind " + text, x.count(1), 1);
        due("count(2) behind " + text, x.count(2), 1);
        due("text() of nothing", x.text(), 0);
        due("fault() of nothing", x.fault(), 0);
    }

    private static void newObject() {
        promise = 1;
        NoSquare x = new NoSquare();
        int[] rules = {2, 2, 12, 5, 4095, 14};
        int[] counted = {12, 0, 0, 0, NONE, 12};
        for (int i = 0; i < 6; i++) {
            due("rule(" + i + ")", x.rule(i), rules[i]);
            due("count(" + i + ")", x.count(i), counted[i]);
        }
        due("left()", x.left(), 5);
        due("fault()", x.fault(), 0);
        due("torn()", x.torn(), 0);
        due("back(0)", x.back(0), STATE);
        for (int k = 0; k < 4; k++) {
            due("lay(" + k + ", 0, 0)", x.lay(k, 0, 0), -11);
        }
    }

    private static void tape() {
        promise = 2;
        NoSquare x = new NoSquare();
        due("feed(grid 4 1)", x.feed(0x6772696420342031L), 8);
        due("feed(;)", x.feed(0x3b20202020202020L), 16);
        due("text()", x.text(), 1);
        due("rule(0)", x.rule(0), 4);
        due("rule(1)", x.rule(1), 1);
        for (int i = 1; i <= 40; i++) {
            due("feed(..)", x.feed(i < 40 ? 0x2020202020202020L : 0xffL), 8 * i);
        }
        due("feed(0)", x.feed(0), FULL);
        due("count(3)", x.count(3), 320);
        due("text()", x.text(), -10 - 312);
        promise = 3;
        due("end(1)", x.end(1), BAD);
        x.feed(0x3b3b3b3b3b3b3b3bL);
        due("end(-1)", x.end(-1), BAD);
        due("end(9)", x.end(9), BAD);
        due("count(3)", x.count(3), 8);
        due("end(8)", x.end(8), 8);
        due("end(3)", x.end(3), 8);
        due("end(0)", x.end(0), 3);
        due("end(0)", x.end(0), 0);
    }

    private static void text() {
        promise = 4;
        NoSquare x = told(" grid4 3;gone 00 30;gone 5;cost 7 9;size 3 1;seen1 12;seen 3 0;  ", 7);
        due("rule(2)", x.rule(2), 31);
        due("rule(4)", x.rule(4), TOP - 1 - 32 - (1 << 30));
        due("rule(5)", x.rule(5), 10);
        due("cost(7)", x.cost(7), 9);
        due("see(1, NONE)", x.see(1, NONE), 12);
        due("see(2, NONE)", x.see(2, NONE), NONE);
        due("see(3, NONE)", x.see(3, NONE), 0);
        x.keep(0);
        x.see(2, 2);
        put(x, "size 2;size 3;gone 12;grid 3 2;");
        due("text()", x.text(), 4);
        due("rule(0)", x.rule(0), 3);
        due("rule(4)", x.rule(4), 0x1ffff - (1 << 12));
        due("rule(5)", x.rule(5), 12);
        due("cost(7)", x.cost(7), 1);
        due("count(1)", x.count(1), 0);
        due("back(0)", x.back(0), STATE);
        due("text() of nothing", x.text(), 0);
        due("rule(2)", x.rule(2), 12);
        due("rule(5)", x.rule(5), 14);
        promise = 5;
        refused("Grid 2 2;", 1, 0);
        refused("grid 2 2;\u0000", 1, 9);
        refused("gone 1 -1;", 1, 7);
        refused("gone 1\t2;", 1, 6);
        refused("gone 1 \u00e9;", 1, 7);
        refused("gone 001;", 1, 5);
        refused("123;", 1, 0);
        refused("grid 2 2 111", 1, 9);
        refused("z 1;", 2, 0);
        refused("gone 0az", 2, 6);
        refused("grids 2 2;", 2, 0);
        refused("gri 2 2;", 2, 0);
        refused("  gonegone 1;", 2, 2);
        refused(";", 2, 0);
        refused("7;", 2, 0);
        refused("gone;", 2, 4);
        refused("gone 1 size 1;", 2, 7);
        refused("grid 2;", 2, 6);
        refused("grid 2 2 2;", 2, 9);
        refused("cost 1 2 3;", 2, 9);
        refused("seen 1;", 2, 6);
        refused("seen 1 2", 2, 8);
        refused("grid", 2, 4);
        refused("gone 1  ", 2, 8);
        refused("grid 0 1;", 3, 5);
        refused("grid 5 9;", 3, 5);
        refused("grid 4 0;", 3, 7);
        refused("grid 4 4", 3, 7);
        refused("gone 31;", 3, 5);
        refused("gone 3 99;", 3, 7);
        refused("gone 3 31;", 3, 7);
        refused("cost 31 0;", 3, 5);
        refused("cost 30 0;", 3, 8);
        refused("cost 30 10;", 3, 8);
        refused("size 0;", 3, 5);
        refused("size 4;", 3, 5);
        refused("seen 0 1;", 3, 5);
        refused("seen 4 1;", 3, 5);
        refused("seen 1 13;", 3, 7);
        refused("grid 2 2;grid 9 9;", 4, 9);
        refused("grid 2 2; grid", 4, 10);
        refused("gone 1 2 1;", 4, 9);
        refused("gone 1;gone 01 x", 4, 12);
        refused("cost 1 1;cost 1 99;", 4, 14);
        refused("size 1 1;", 4, 7);
        refused("size 1;size 2 1;", 4, 14);
        refused("seen 1 1;seen 1 1;", 4, 14);
        refused("gone 12;", 5, 8);
        refused("cost 12 1;  ", 5, 12);
        refused("gone 30;grid 4 2;", 5, 17);
        refused("gone 30;cost 40 1;", 3, 13);
        told("size 1;seen 1 1;gone 1;cost 1 1;", 4);
        told("gone 30;cost 30 1;grid 4 3;", 3);
        told("gone 3 0;", 1);
        // what was behind the end does not count
        x.feed(0x676f6e652031323bL);
        x.end(6);
        due("text() of gone 1", x.text(), -16);
        due("fault()", x.fault(), 2);
    }

    private static void rules() {
        promise = 6;
        NoSquare x = told("grid 1 3;gone 0;size 2;", 3);
        int[] rules = {1, 3, 10, 3, 1022, 4};
        for (int i = 0; i < 6; i++) {
            due("rule(" + i + ")", x.rule(i), rules[i]);
        }
        due("rule(-1)", x.rule(-1), BAD);
        due("rule(6)", x.rule(6), BAD);
        promise = 7;
        x = told("grid 3 2;gone 16;", 2);
        due("square(5, 0)", x.square(5, 0), 1);
        due("square(5, 1)", x.square(5, 1), 1);
        due("square(5, 2)", x.square(5, 2), 2);
        due("square(5, 3)", x.square(5, 3), 1 << 5 | 1 << 8 | 1 << 15 | 1 << 16);
        due("square(5, 4)", x.square(5, 4), 0);
        due("square(6, 0)", x.square(6, 0), 2);
        due("square(6, 3)", x.square(6, 3), 1 | 2 | 1 << 6 | 1 << 7 | 1 << 9 | 1 << 13 | 1 << 11 | 1 << 15);
        due("square(6, 4)", x.square(6, 4), 1);
        due("square(7, 1)", x.square(7, 1), 0);
        due("square(7, 2)", x.square(7, 2), 1);
        due("square(8, 0)", x.square(8, 0), BAD);
        due("square(-1, 0)", x.square(-1, 0), BAD);
        due("square(0, -1)", x.square(0, -1), BAD);
        due("square(0, 5)", x.square(0, 5), BAD);
        due("square(low, 0)", x.square(LOW, 0), BAD);
        promise = 8;
        x = told("cost 11 9;", 1);
        due("cost(11)", x.cost(11), 9);
        due("cost(0)", x.cost(0), 1);
        due("cost(12)", x.cost(12), BAD);
        due("cost(-1)", x.cost(-1), BAD);
        promise = 9;
        x = told("grid 4 3;gone 0;size 1;", 3);
        due("whole(1)", x.whole(1), 11);
        due("whole(2)", x.whole(2), 5);
        due("whole(3)", x.whole(3), 1);
        due("whole(0)", x.whole(0), BAD);
        due("whole(4)", x.whole(4), BAD);
        due("whole(3) of 2 by 2", new NoSquare().whole(3), 0);
        promise = 10;
        due("left()", x.left(), 11);
        due("left()", told("grid 4 3;gone 0;size 2 3;", 3).left(), 6);
    }

    private static void changes() {
        promise = 11;
        NoSquare x = told("grid 2 1;", 1);
        due("take(5)", x.take(5), 0);
        due("take(5)", x.take(5), STATE);
        due("take(7)", x.take(7), BAD);
        due("take(-1)", x.take(-1), BAD);
        due("take(37)", x.take(37), BAD);
        due("rule(4)", x.rule(4), 127 - 32);
        promise = 12;
        due("lie(0)", x.lie(0), STATE);
        due("lie(7)", x.lie(7), BAD);
        due("lie(-1)", x.lie(-1), BAD);
        due("lie(5)", x.lie(5), 2);
        due("rule(4)", x.rule(4), 127);
        promise = 13;
        due("price(6, 9)", x.price(6, 9), 1);
        due("price(6, 10)", x.price(6, 10), BAD);
        due("price(6, 0)", x.price(6, 0), BAD);
        due("price(7, 1)", x.price(7, 1), BAD);
        due("price(-1, 1)", x.price(-1, 1), BAD);
        due("price(6, 1)", x.price(6, 1), 9);
        promise = 14;
        due("counts(1, false)", x.counts(1, false), 1);
        due("counts(1, false)", x.counts(1, false), 0);
        due("left()", x.left(), 0);
        due("rule(5)", x.rule(5), 12);
        due("counts(1, true)", x.counts(1, true), 0);
        due("counts(1, true)", x.counts(1, true), 1);
        due("left()", x.left(), 2);
        due("counts(3, false)", x.counts(3, false), 1);
        due("counts(0, true)", x.counts(0, true), BAD);
        due("counts(4, true)", x.counts(4, true), BAD);
        due("rule(5)", x.rule(5), 6);
    }

    private static void breaking() {
        promise = 15;
        NoSquare x = told("grid 2 1;", 1);
        due("fewest(0)", x.fewest(0), 1);
        due("fewest(1)", x.fewest(1), 32);
        due("fewest(2)", x.fewest(2), 1);
        due("fewest(-1)", x.fewest(-1), BAD);
        due("fewest(3)", x.fewest(3), BAD);
        due("rule(4)", x.rule(4), 127);
        NoSquare apart = told("grid 3 1;gone 1;", 2);
        due("fewest(0)", apart.fewest(0), 2);
        due("fewest(1)", apart.fewest(1), 5);
        due("fewest(2)", apart.fewest(2), 16);
        NoSquare none = told("size 3;", 1);
        due("fewest(0)", none.fewest(0), 0);
        due("fewest(1)", none.fewest(1), 0);
        due("fewest(2)", none.fewest(2), 1);
        promise = 16;
        due("cheapest(0)", x.cheapest(0), 1);
        x.price(5, 2);
        due("cheapest(0)", x.cheapest(0), 2);
        due("cheapest(1)", x.cheapest(1), 3);
        x.price(1, 9);
        due("cheapest(1)", x.cheapest(1), 9);
        x.price(3, 9);
        x.price(6, 9);
        due("cheapest(1)", x.cheapest(1), 32);
        due("fewest(1)", x.fewest(1), 32);
        due("cheapest(-1)", x.cheapest(-1), BAD);
        due("cheapest(2)", x.cheapest(2), BAD);
        due("cheapest(0)", none.cheapest(0), 0);
        due("cheapest(1)", none.cheapest(1), 0);
        promise = 17;
        due("without(32)", x.without(32), 0);
        due("without(1)", x.without(1), 1);
        due("without(0)", x.without(0), 2);
        due("without(128)", x.without(128), BAD);
        due("without(-1)", x.without(-1), BAD);
        due("without(low)", x.without(LOW), BAD);
        x.take(0);
        due("without(1)", x.without(1), BAD);
        due("without(3)", x.without(3), BAD);
        due("rule(4)", x.rule(4), 126);
    }

    private static void turning() {
        promise = 18;
        NoSquare x = new NoSquare();
        due("alike(0, 0)", x.alike(0, 0), 1);
        due("alike(0, 1)", x.alike(0, 1), 0);
        due("alike(1, 64)", x.alike(1, 64), 1);
        due("alike(1, 2048)", x.alike(1, 2048), 1);
        due("alike(5, 3)", x.alike(5, 3), 0);
        // two sides of one corner field, to the opposite corner
        due("alike(65, 2080)", x.alike(65, 2080), 1);
        due("alike(4096, 0)", x.alike(4096, 0), BAD);
        due("alike(0, 4096)", x.alike(0, 4096), BAD);
        due("alike(-1, 0)", x.alike(-1, 0), BAD);
        x.take(0);
        due("alike(1, 2)", x.alike(1, 2), 1);
        NoSquare y = told("grid 3 1;", 1);
        due("alike(1, 4)", y.alike(1, 4), 1);
        due("alike(1, 8)", y.alike(1, 8), 1);
        due("alike(1, 32)", y.alike(1, 32), 1);
        due("alike(1, 2)", y.alike(1, 2), 0);
        due("alike(64, 512)", y.alike(64, 512), 1);
        due("alike(1, 64)", y.alike(1, 64), 0);
        due("alike(9, 36)", y.alike(9, 36), 1);
        due("alike(33, 12)", y.alike(33, 12), 1);
        due("alike(33, 9)", y.alike(33, 9), 0);
    }

    private static void picking() {
        promise = 19;
        NoSquare x = told("grid 2 1;", 1);
        due("between(0)", x.between(0), 4);
        due("between(1)", x.between(1), 3);
        due("between(2)", x.between(2), 3);
        due("between(4)", x.between(4), 1);
        due("between(-1)", x.between(-1), BAD);
        due("between(5)", x.between(5), BAD);
        NoSquare few = told("grid 1 1;gone 0 1;", 2);
        due("between(2)", few.between(2), 1);
        due("between(3)", few.between(3), NONE);
        due("between(5)", few.between(5), BAD);
        promise = 20;
        due("just(1, 1, 0)", x.just(1, 1, 0), 6);
        due("just(1, 1, 1)", x.just(1, 1, 1), 1);
        due("just(1, 0, 0)", x.just(1, 0, 0), 1);
        due("just(1, 0, 1)", x.just(1, 0, 1), 32);
        due("just(2, 0, 0)", x.just(2, 0, 0), 15);
        due("just(2, 0, 1)", x.just(2, 0, 1), 3);
        due("just(1, 2, 0)", x.just(1, 2, 0), 0);
        due("just(1, 2, 1)", x.just(1, 2, 1), NONE);
        due("just(0, 2, 0)", x.just(0, 2, 0), 1);
        due("just(0, 2, 1)", x.just(0, 2, 1), 0);
        due("just(0, 20, 0)", x.just(0, 20, 0), 0);
        due("just(0, 21, 0)", x.just(0, 21, 0), BAD);
        due("just(0, -1, 0)", x.just(0, -1, 0), BAD);
        due("just(-1, 0, 0)", x.just(-1, 0, 0), BAD);
        due("just(5, 0, 0)", x.just(5, 0, 0), BAD);
        due("just(0, 0, 2)", x.just(0, 0, 2), BAD);
        due("just(0, 0, -1)", x.just(0, 0, -1), BAD);
        due("just(3, 0, 0)", few.just(3, 0, 0), 0);
        due("just(3, 0, 1)", few.just(3, 0, 1), NONE);
        due("just(4, 6, 0) of 4 by 3", told("grid 4 3;size 2;", 2).just(4, 6, 0), untouched());
        promise = 21;
        NoSquare y = told("grid 2 1;gone 0;", 2);
        due("riddle(1, 1, 0)", y.riddle(1, 1, 0), 5);
        due("riddle(1, 1, 1)", y.riddle(1, 1, 1), 2);
        due("riddle(1, 1, 2)", y.riddle(1, 1, 2), 1);
        due("riddle(1, 0, 0)", y.riddle(1, 0, 0), 1);
        due("riddle(1, 0, 1)", y.riddle(1, 0, 1), 32);
        due("riddle(1, 2, 0)", y.riddle(1, 2, 0), 0);
        due("riddle(1, 2, 1)", y.riddle(1, 2, 1), NONE);
        due("riddle(1, 2, 2)", y.riddle(1, 2, 2), NONE);
        due("riddle(2, 0, 0)", y.riddle(2, 0, 0), 0);
        due("riddle(0, 0, 0)", y.riddle(0, 0, 0), BAD);
        due("riddle(3, 0, 0)", y.riddle(3, 0, 0), BAD);
        due("riddle(1, -1, 0)", y.riddle(1, -1, 0), BAD);
        due("riddle(1, 21, 0)", y.riddle(1, 21, 0), BAD);
        due("riddle(1, 0, 3)", y.riddle(1, 0, 3), BAD);
        due("riddle(1, 0, -1)", y.riddle(1, 0, -1), BAD);
        due("rule(4)", y.rule(4), 126);
        y.take(2);
        // both are laid back, two of the other square are taken but its shared match
        due("riddle(2, 1, 0)", y.riddle(2, 1, 0), 3);
        due("riddle(2, 1, 1)", y.riddle(2, 1, 1), 10);
        due("riddle(2, 1, 2)", y.riddle(2, 1, 2), 5);
    }

    /** In 4 by 3, squares of size 2 leave no match alone but these: of n matches C(n, 4) sets. */
    private static int untouched() {
        NoSquare x = new NoSquare();
        put(x, "grid 4 3;size 2;");
        x.text();
        int free = 0;
        for (int m = 0; m < 31; m++) {
            boolean on = false;
            for (int q = 12; q < 18; q++) {
                on |= (x.square(q, 3) >> m & 1) != 0;
            }
            free += on ? 0 : 1;
        }
        return free * (free - 1) * (free - 2) * (free - 3) / 24;
    }

    private static void games() {
        promise = 22;
        NoSquare x = told("grid 2 1;", 1);
        due("taking(0)", x.taking(0), 1);
        due("taking(1)", x.taking(1), 5);
        due("taking(-1)", x.taking(-1), BAD);
        due("taking(2)", x.taking(2), BAD);
        NoSquare apart = told("grid 3 1;gone 1 4;", 2);
        due("taking(0)", apart.taking(0), 2);
        due("taking(1)", apart.taking(1), NONE);
        apart.lie(4);
        due("taking(0)", apart.taking(0), 1);
        due("taking(1)", apart.taking(1), 4);
        due("rule(4)", apart.rule(4), 1021);
        due("taking(0) of 13", told("grid 4 1;", 1).taking(0), STATE);
        due("taking(0) of 12", told("grid 4 1;gone 12;", 2).taking(0) > 0 ? 1 : 0, 1);
        NoSquare none = told("grid 1 1;gone 0;", 2);
        due("taking(0)", none.taking(0), STATE);
        due("taking(2)", none.taking(2), BAD);
        promise = 23;
        due("laying(0)", none.laying(0), 1);
        due("laying(1)", none.laying(1), 0);
        none.take(2);
        due("laying(0)", none.laying(0), 2);
        due("laying(1)", none.laying(1), 0);
        none.counts(1, false);
        due("laying(0)", none.laying(0), 0);
        due("laying(1)", none.laying(1), 0);
        none.counts(1, true);
        none.take(1);
        due("laying(0)", none.laying(0), 1);
        due("laying(-1)", none.laying(-1), BAD);
        due("laying(2)", none.laying(2), BAD);
        due("laying(0) of 2 by 1", x.laying(0), STATE);
        NoSquare later = told("gone 0 6 11;", 1);
        due("laying(1)", later.laying(1), 11);
        NoSquare bare = told("gone 0 1 2 3 4 5 6 7 8 9 10 11;", 1);
        due("laying(0) of 12", bare.laying(0) >= 0 ? 1 : 0, 1);
        NoSquare barer = told("grid 4 1;gone 0 1 2 3 4 5 6 7 8 9 10 11 12;", 2);
        due("laying(0) of 13", barer.laying(0), STATE);
        promise = 24;
        due("boxes(0) of 13", barer.boxes(0), STATE);
        due("boxes(0) of 12", bare.boxes(0) > 0 ? 1 : 0, 1);
        due("boxes(0) of 2 by 1", x.boxes(0), STATE);
        x.take(5);
        due("boxes(0)", x.boxes(0), 102);
        due("boxes(1)", x.boxes(1), 5);
        x.take(0);
        // 5 makes one, then 0 the other: both are the first one's
        due("boxes(0)", x.boxes(0), 102);
        due("boxes(1)", x.boxes(1), 5);
        NoSquare given = told("grid 1 1;gone 1 3;", 2);
        due("boxes(0)", given.boxes(0), 99);
        due("boxes(1)", given.boxes(1), 1);
        due("boxes(-1)", given.boxes(-1), BAD);
        due("boxes(2)", given.boxes(2), BAD);
        due("rule(4)", given.rule(4), 5);
    }

    private static void coins() {
        promise = 25;
        NoSquare x = told("grid 2 1;", 1);
        due("mean(0)", x.mean(0), 1);
        due("mean(1)", x.mean(1), 8);
        due("mean(-1)", x.mean(-1), BAD);
        due("mean(2)", x.mean(2), BAD);
        NoSquare large = told("grid 3 3;size 3;", 2);
        due("mean(0)", large.mean(0), 1);
        due("mean(1)", large.mean(1), 4096);
        large.take(0);
        due("mean(0)", large.mean(0), 0);
        due("mean(1)", large.mean(1), 1);
        promise = 26;
        due("chance(0)", x.chance(0), 113);
        due("chance(1)", x.chance(1), 128);
        due("chance(-1)", x.chance(-1), BAD);
        due("chance(2)", x.chance(2), BAD);
        due("chance(0)", large.chance(0), STATE);
        due("chance(2)", large.chance(2), BAD);
        NoSquare wide = told("grid 3 2;gone 3;", 2);
        due("chance(0) of 16", wide.chance(0) > 0 ? 1 : 0, 1);
        wide.lie(3);
        due("chance(0) of 17", wide.chance(0), STATE);
        NoSquare none = told("size 3;", 1);
        due("chance(0)", none.chance(0), 1);
        due("chance(1)", none.chance(1), 1);
    }

    private static void seen() {
        promise = 27;
        NoSquare x = told("grid 2 1;", 1);
        due("see(1, 1)", x.see(1, 1), NONE);
        due("see(1, 12)", x.see(1, 12), 1);
        due("see(1, 13)", x.see(1, 13), BAD);
        due("see(1, -1)", x.see(1, -1), BAD);
        due("see(1, -3)", x.see(1, -3), BAD);
        due("see(1, -5)", x.see(1, -5), BAD);
        due("see(0, 1)", x.see(0, 1), BAD);
        due("see(4, NONE)", x.see(4, NONE), BAD);
        due("see(1, NONE)", x.see(1, NONE), 12);
        due("see(1, NONE)", x.see(1, NONE), NONE);
        promise = 28;
        due("gone(1, 0)", x.gone(1, 0), 7);
        due("gone(4, 0)", x.gone(4, 0), 35);
        due("gone(0, 1)", x.gone(0, 1), 0);
        due("gone(0, 2)", x.gone(0, 2), 0);
        x.see(1, 1);
        due("gone(1, 0)", x.gone(1, 0), 6);
        due("gone(1, 1)", x.gone(1, 1), 1);
        due("gone(1, 2)", x.gone(1, 2), 0);
        x.counts(1, false);
        x.see(1, 0);
        due("gone(1, 0)", x.gone(1, 0), 1);
        due("gone(1, 1)", x.gone(1, 1), 32);
        due("gone(1, 2)", x.gone(1, 2), 32);
        due("gone(2, 0)", x.gone(2, 0), 15);
        due("gone(0, 0)", x.gone(0, 0), 0);
        due("gone(0, 1)", x.gone(0, 1), NONE);
        due("gone(0, 2)", x.gone(0, 2), NONE);
        x.see(2, 1);
        due("gone(1, 0)", x.gone(1, 0), 0);
        due("gone(5, 0)", x.gone(5, 0), BAD);
        due("gone(-1, 0)", x.gone(-1, 0), BAD);
        due("gone(1, 3)", x.gone(1, 3), BAD);
        due("gone(1, -1)", x.gone(1, -1), BAD);
        promise = 29;
        NoSquare y = new NoSquare();
        due("play(0, 0)", y.play(0, 0), 5);
        due("play(0, 1)", y.play(0, 1), 3);
        // 1103527590 by 65536 is 16838, modulo 12 it is 2
        due("play(1, 1)", y.play(1, 1), 3);
        due("play(-7, 60)", y.play(-7, 60), 0);
        due("play(0, 61)", y.play(0, 61), BAD);
        due("play(0, -1)", y.play(0, -1), BAD);
        due("rule(4)", y.rule(4), 4095);
    }

    private static void images() {
        promise = 30;
        NoSquare x = new NoSquare();
        due("keep(0)", x.keep(0), 0);
        due("keep(2)", x.keep(2), BAD);
        due("keep(-1)", x.keep(-1), BAD);
        due("count(2)", x.count(2), 1);
        x.take(0);
        x.price(3, 7);
        x.counts(2, false);
        x.see(1, 4);
        due("keep(1)", x.keep(1), 0);
        due("keep(1)", x.keep(1), 1);
        promise = 31;
        due("back(0)", x.back(0), 5);
        due("rule(4)", x.rule(4), 4095);
        due("cost(3)", x.cost(3), 1);
        due("rule(5)", x.rule(5), 14);
        due("count(1)", x.count(1), 0);
        x.price(3, 2);
        due("back(1)", x.back(1), 3);
        due("rule(4)", x.rule(4), 4094);
        due("cost(3)", x.cost(3), 7);
        due("rule(5)", x.rule(5), 10);
        due("see(1, 0)", x.see(1, 0), 4);
        x.take(1);
        due("back(1)", x.back(1), 3);
        due("see(1, 0)", x.see(1, 0), 4);
        due("back(2)", x.back(2), BAD);
        due("back(-1)", x.back(-1), BAD);
        due("back(1) of a new one", new NoSquare().back(1), STATE);
    }

    private static void sheets() {
        promise = 32;
        NoSquare x = new NoSquare();
        due("sheet(0, 0, 40)", x.sheet(0, 0, 40), 1);
        due("sheet(0, 0, 41)", x.sheet(0, 0, 41), BAD);
        due("sheet(0, 0, -1)", x.sheet(0, 0, -1), -14);
        due("sheet(0, 0, low)", x.sheet(0, 0, LOW), -14);
        due("sheet(4, 0, -1)", x.sheet(4, 0, -1), BAD);
        due("sheet(-1, 0, 1)", x.sheet(-1, 0, 1), BAD);
        due("sheet(0, 3, -1)", x.sheet(0, 3, -1), BAD);
        due("sheet(0, -1, 1)", x.sheet(0, -1, 1), BAD);
        due("count(4)", x.count(4), 40);
        due("sheet(0, 1, 0)", x.sheet(0, 1, 0), 1);
        due("count(4)", x.count(4), 0);
        promise = 33;
        due("lay(0, 0, 1)", x.lay(0, 0, 1), -12);
        due("lay(1, 0, 1)", x.lay(1, 0, 1), -11);
        due("lay(1, -1, 1)", x.lay(1, -1, 1), -11);
        due("lay(4, 0, 1)", x.lay(4, 0, 1), BAD);
        due("lay(-1, 0, 1)", x.lay(-1, 0, 1), BAD);
        for (int lane = 0; lane < 3; lane++) {
            x.sheet(lane, lane, 2);
            due("lay(" + lane + ", 1, ..)", x.lay(lane, 1, 0x10103), 1);
            due("lay(" + lane + ", 2, 0)", x.lay(lane, 2, 0), -12);
            due("lay(" + lane + ", -1, 0)", x.lay(lane, -1, 0), -12);
        }
        due("read(0, 0, 1, 1)", x.read(0, 0, 1, 1), 1);
        due("rule(4)", x.rule(4), 4095 - 8);
        due("read(1, 1, 1, 1)", x.read(1, 1, 1, 1), -20);
        x.lay(1, 1, 0x10004);
        due("read(1, 1, 1, 1)", x.read(1, 1, 1, 1), 1);
        due("rule(4)", x.rule(4), 4095 - 8 - 16);
        due("read(2, 2, 1, 1)", x.read(2, 2, 1, 1), -20);
        x.lay(2, 1, 5);
        due("read(2, 2, 1, 1)", x.read(2, 2, 1, 1), 1);
        x.lay(0, 1, 255);
        due("read(0, 0, 1, 1)", x.read(0, 0, 1, 1), -20);
    }

    private static void reading() {
        promise = 34;
        NoSquare x = new NoSquare();
        x.sheet(3, 2, 3);
        x.lay(3, 0, 4);
        x.lay(3, 1, 7);
        x.lay(3, 2, 4);
        due("read(3, 2, 0, 2)", x.read(3, 2, 0, 2), 2);
        due("rule(4)", x.rule(4), 4095 - 16 - 128);
        x.lie(4);
        x.lie(7);
        due("read(3, 2, 0, 3)", x.read(3, 2, 0, 3), -22);
        due("rule(4)", x.rule(4), 4095);
        x.lay(3, 2, 12);
        due("read(3, 2, 0, 4)", x.read(3, 2, 0, 4), -22);
        due("read(3, 2, 0, 0)", x.read(3, 2, 0, 0), 0);
        due("read(4, 2, 0, 0)", x.read(4, 2, 0, 0), BAD);
        due("read(-1, 2, 0, 0)", x.read(-1, 2, 0, 0), BAD);
        due("read(3, 3, 0, 0)", x.read(3, 3, 0, 0), BAD);
        due("read(3, -1, 0, 0)", x.read(3, -1, 0, 0), BAD);
        due("read(3, 2, 0, -1)", x.read(3, 2, 0, -1), BAD);
        due("read(3, 2, 0, 21)", x.read(3, 2, 0, 21), BAD);
        promise = 35;
        due("torn()", x.torn(), 0);
        x.lay(3, 2, 0);
        due("read(3, 2, 1, 20)", x.read(3, 2, 1, 20), 2);
        due("torn()", x.torn(), 2);
        due("rule(4)", x.rule(4), 4095 - 128 - 1);
        due("read(3, 2, 0, 3)", x.read(3, 2, 0, 3), -21);
        due("read(3, 2, 0, 21)", x.read(3, 2, 0, 21), BAD);
        due("torn()", x.torn(), 2);
        due("read(3, 1, 0, 1)", x.read(3, 1, 0, 1), 0);
        due("torn()", x.torn(), 3);
        due("read(3, 0, -1, 1)", x.read(3, 0, -1, 1), 0);
        due("torn()", x.torn(), 3);
        due("read(0, 1, -1, 1)", x.read(0, 1, -1, 1), 0);
        due("torn()", x.torn(), 1);
        due("read(3, 2, -1, 1)", x.read(3, 2, -1, 1), 0);
        due("torn()", x.torn(), 2);
        due("read(3, 2, top, 20)", x.read(3, 2, TOP, 20), 0);
        due("torn()", x.torn(), 2);
        due("text()", x.text(), 0);
        due("torn()", x.torn(), 2);
        due("read(3, 2, 0, 1)", x.read(3, 2, 0, 1), 1);
        due("torn()", x.torn(), 0);
        readsOfNone(x);
    }

    /** Of 0 matches nothing is refused, whatever the sheet is; an older fault is told no more. */
    private static void readsOfNone(NoSquare x) {
        int[][] reads = {{3, 0, 0}, {3, 1, 0}, {3, 1, -1}, {3, 2, 3}, {3, 2, -1}, {3, 2, TOP}, {0, 0, 0}, {0, 2, 5}};
        int lying = x.rule(4);
        for (int[] at : reads) {
            due("read(3, 1, 0, 1)", x.read(3, 1, 0, 1), 0);
            due("torn()", x.torn(), 3);
            String call = "read(" + at[0] + ", " + at[1] + ", " + at[2] + ", 0)";
            due(call, x.read(at[0], at[1], at[2], 0), 0);
            due("torn() behind " + call, x.torn(), 0);
        }
        due("rule(4)", x.rule(4), lying);
    }

    private static void counting() {
        promise = 36;
        NoSquare x = told("grid 2 1;gone 0;cost 0 9;cost 1 5;seen 3 0;seen 1 1;", 6);
        x.keep(1);
        x.sheet(0, 2, 7);
        x.feed(0);
        int[] counted = {6, 2, 1, 8, 7, 10};
        for (int i = 0; i < 6; i++) {
            due("count(" + i + ")", x.count(i), counted[i]);
        }
        due("count(-1)", x.count(-1), BAD);
        due("count(6)", x.count(6), BAD);
        x.keep(0);
        x.see(3, NONE);
        due("count(1)", x.count(1), 1);
        due("count(2)", x.count(2), 2);
    }

    public static void main(String[] args) {
        due("BAD", NoSquare.BAD, BAD);
        due("STATE", NoSquare.STATE, STATE);
        due("FULL", NoSquare.FULL, FULL);
        due("NONE", NoSquare.NONE, NONE);
        newObject();
        tape();
        text();
        rules();
        changes();
        breaking();
        turning();
        picking();
        games();
        coins();
        seen();
        images();
        sheets();
        reading();
        counting();
        System.out.println(wrong == 0 ? "all answers are as due" : wrong + " answers are not as due");
        if (wrong != 0) {
            System.exit(1);
        }
    }
}
