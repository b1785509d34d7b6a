import java.util.ArrayList;
import java.util.List;

/** What is refused, and what only asks, changes nothing; of several answers the first that fits is told. */
public final class Refusals {
    private static final int BAD = Due.BAD, STATE = Due.STATE, FULL = Due.FULL, NONE = Due.NONE;

    private interface Call {
        long on(NoSquare x);
    }

    private record Refused(String name, Call call, long want) {
    }

    /** An object in which everything is other than at first. */
    private static NoSquare used() {
        NoSquare x = Due.taken("grid 3 2;gone 4 9;cost 5 6;size 1 2;seen 2 1;", 5);
        x.keep(0);
        x.take(16);
        x.price(0, 9);
        x.counts(2, false);
        x.see(1, 3);
        x.keep(1);
        x.lie(4);
        x.price(0, 8);
        x.see(3, 0);
        x.sheet(0, 0, 3);
        x.lay(0, 0, 1);
        x.lay(0, 1, 9);
        x.sheet(1, 1, 40);
        x.lay(1, 39, 2);
        x.sheet(2, 2, 0);
        Due.put(x, "grid 9 9;");
        Due.due("text()", x.text(), -15);
        Due.due("read(0, 1, 0, 1)", x.read(0, 1, 0, 1), 0);
        Due.put(x, "gone 3");
        return x;
    }

    private static NoSquare withFullTape() {
        NoSquare x = used();
        x.end(0);
        Due.put(x, "gone 3 2" + " ".repeat(305));
        return x;
    }

    /** All that can be asked; what asking changes is changed in both twins alike. */
    private static List<Long> answers(NoSquare x) {
        List<Long> said = new ArrayList<>();
        tellState(x, said);
        said.add((long) x.fault());
        said.add((long) x.torn());
        for (int k = 0; k < 2; k++) {
            said.add((long) x.back(k));
            tellState(x, said);
        }
        for (int m = 0; m < 31; m++) {
            x.lie(m);
        }
        for (int at = 0; at < 4 * 3 * 41; at++) {
            said.add((long) x.read(at / 123, at / 41 % 3, at % 41, 1));
            said.add((long) x.torn());
            said.add((long) x.rule(4));
            for (int m = 0; m < 31; m++) {
                x.lie(m);
            }
        }
        said.add((long) x.feed(0x3b20202020202020L));
        said.add((long) x.text());
        said.add((long) x.fault());
        tellState(x, said);
        return said;
    }

    private static void tellState(NoSquare x, List<Long> said) {
        for (int what = 0; what < 6; what++) {
            said.add((long) x.rule(what));
            said.add((long) x.count(what));
        }
        for (int q = 0; q < 20; q++) {
            said.add((long) x.square(q, 3));
            said.add((long) x.square(q, 4));
        }
        for (int m = 0; m < 31; m++) {
            said.add((long) x.cost(m));
        }
        for (int size = 1; size <= 3; size++) {
            int seen = x.see(size, NONE);
            x.see(size, seen);
            said.add((long) seen);
            said.add((long) x.whole(size));
        }
        said.add((long) x.left());
    }

    private static final Refused[] BY_USED = {
        new Refused("end(7)", x -> x.end(7), BAD), new Refused("end(-1)", x -> x.end(-1), BAD),
        new Refused("rule(6)", x -> x.rule(6), BAD), new Refused("rule(-1)", x -> x.rule(-1), BAD),
        new Refused("square(8, 0)", x -> x.square(8, 0), BAD), new Refused("square(0, 5)", x -> x.square(0, 5), BAD),
        new Refused("cost(17)", x -> x.cost(17), BAD), new Refused("whole(4)", x -> x.whole(4), BAD),
        new Refused("take(17)", x -> x.take(17), BAD), new Refused("take(-1)", x -> x.take(-1), BAD),
        new Refused("take(33)", x -> x.take(33), BAD), new Refused("take(9)", x -> x.take(9), STATE),
        new Refused("lie(17)", x -> x.lie(17), BAD), new Refused("lie(-1)", x -> x.lie(-1), BAD),
        new Refused("lie(41)", x -> x.lie(41), BAD), new Refused("lie(0)", x -> x.lie(0), STATE),
        new Refused("price(17, 2)", x -> x.price(17, 2), BAD), new Refused("price(-1, 2)", x -> x.price(-1, 2), BAD),
        new Refused("price(0, 0)", x -> x.price(0, 0), BAD), new Refused("price(0, 10)", x -> x.price(0, 10), BAD),
        new Refused("counts(0, true)", x -> x.counts(0, true), BAD),
        new Refused("counts(4, true)", x -> x.counts(4, true), BAD),
        new Refused("counts(33, false)", x -> x.counts(33, false), BAD),
        new Refused("fewest(3)", x -> x.fewest(3), BAD), new Refused("cheapest(2)", x -> x.cheapest(2), BAD),
        new Refused("without(512)", x -> x.without(512), BAD), new Refused("without(-1)", x -> x.without(-1), BAD),
        new Refused("alike(131072, 0)", x -> x.alike(131072, 0), BAD),
        new Refused("between(5)", x -> x.between(5), BAD), new Refused("just(5, 0, 0)", x -> x.just(5, 0, 0), BAD),
        new Refused("just(4, 6, 1)", x -> x.just(4, 6, 1), NONE),
        new Refused("riddle(3, 0, 0)", x -> x.riddle(3, 0, 0), BAD),
        new Refused("riddle(1, 20, 1)", x -> x.riddle(1, 20, 1), NONE),
        new Refused("riddle(2, 20, 2)", x -> x.riddle(2, 20, 2), NONE),
        new Refused("taking(2)", x -> x.taking(2), BAD), new Refused("taking(0)", x -> x.taking(0), STATE),
        new Refused("laying(2)", x -> x.laying(2), BAD), new Refused("boxes(2)", x -> x.boxes(2), BAD),
        new Refused("mean(2)", x -> x.mean(2), BAD), new Refused("chance(2)", x -> x.chance(2), BAD),
        new Refused("see(0, 1)", x -> x.see(0, 1), BAD), new Refused("see(4, 1)", x -> x.see(4, 1), BAD),
        new Refused("see(1, 13)", x -> x.see(1, 13), BAD), new Refused("see(1, -1)", x -> x.see(1, -1), BAD),
        new Refused("gone(5, 0)", x -> x.gone(5, 0), BAD), new Refused("gone(0, 1)", x -> x.gone(0, 1), NONE),
        new Refused("gone(0, 2)", x -> x.gone(0, 2), NONE), new Refused("play(1, 61)", x -> x.play(1, 61), BAD),
        new Refused("keep(2)", x -> x.keep(2), BAD), new Refused("keep(-1)", x -> x.keep(-1), BAD),
        new Refused("back(2)", x -> x.back(2), BAD), new Refused("back(-1)", x -> x.back(-1), BAD),
        new Refused("sheet(4, 0, 1)", x -> x.sheet(4, 0, 1), BAD),
        new Refused("sheet(-1, 0, 1)", x -> x.sheet(-1, 0, 1), BAD),
        new Refused("sheet(0, 3, 1)", x -> x.sheet(0, 3, 1), BAD),
        new Refused("sheet(0, -1, 1)", x -> x.sheet(0, -1, 1), BAD),
        new Refused("sheet(0, 0, 41)", x -> x.sheet(0, 0, 41), BAD),
        new Refused("sheet(0, 0, -1)", x -> x.sheet(0, 0, -1), -14),
        new Refused("sheet(1, 2, -40)", x -> x.sheet(1, 2, -40), -14),
        new Refused("lay(4, 0, 5)", x -> x.lay(4, 0, 5), BAD), new Refused("lay(-1, 0, 5)", x -> x.lay(-1, 0, 5), BAD),
        new Refused("lay(3, 0, 5)", x -> x.lay(3, 0, 5), -11), new Refused("lay(0, 3, 5)", x -> x.lay(0, 3, 5), -12),
        new Refused("lay(0, -1, 5)", x -> x.lay(0, -1, 5), -12), new Refused("lay(2, 0, 5)", x -> x.lay(2, 0, 5), -12),
        new Refused("read(4, 0, 0, 1)", x -> x.read(4, 0, 0, 1), BAD),
        new Refused("read(-1, 0, 0, 1)", x -> x.read(-1, 0, 0, 1), BAD),
        new Refused("read(0, 3, 0, 1)", x -> x.read(0, 3, 0, 1), BAD),
        new Refused("read(0, 0, 0, 21)", x -> x.read(0, 0, 0, 21), BAD),
        new Refused("read(0, 0, 0, -1)", x -> x.read(0, 0, 0, -1), BAD),
        new Refused("read(0, 0, 1, 1)", x -> x.read(0, 0, 1, 1), -20),
        new Refused("read(0, 0, 0, 3)", x -> x.read(0, 0, 0, 3), -21),
        new Refused("count(6)", x -> x.count(6), BAD), new Refused("count(-1)", x -> x.count(-1), BAD),
    };

    /** On a new object: nothing was kept, all lie. */
    private static final Refused[] BY_NEW = {
        new Refused("end(1)", x -> x.end(1), BAD), new Refused("back(0)", x -> x.back(0), STATE),
        new Refused("back(1)", x -> x.back(1), STATE), new Refused("laying(0)", x -> x.laying(0), STATE),
        new Refused("boxes(1)", x -> x.boxes(1), STATE), new Refused("lie(11)", x -> x.lie(11), STATE),
        new Refused("lay(0, 0, 1)", x -> x.lay(0, 0, 1), -11), new Refused("take(12)", x -> x.take(12), BAD),
        new Refused("lie(12)", x -> x.lie(12), BAD), new Refused("price(12, 5)", x -> x.price(12, 5), BAD),
        new Refused("riddle(1, 5, 2)", x -> x.riddle(1, 5, 2), NONE),
    };

    private static final Refused[] BY_FULL = {
        new Refused("feed(1)", x -> x.feed(0x3b3b3b3b3b3b3b3bL), FULL), new Refused("end(314)", x -> x.end(314), BAD),
    };

    private static void changesNothing(Refused r, NoSquare x, NoSquare twin) {
        Due.due(r.name(), r.call().on(x), r.want());
        Due.due("all is as it was behind " + r.name(), answers(x).equals(answers(twin)) ? 1 : 0, 1);
    }

    private static void refused() {
        Due.edge("what is refused changes nothing (but THE TAPE, as told).");
        for (Refused r : BY_USED) {
            changesNothing(r, used(), used());
        }
        for (Refused r : BY_NEW) {
            changesNothing(r, new NoSquare(), new NoSquare());
        }
        for (Refused r : BY_FULL) {
            changesNothing(r, withFullTape(), withFullTape());
        }
        // a text that is refused: the tape is empty, all else is as it was, but for fault()
        String[] texts = {"#", "grid 1 1;a", "gone 4;size 9", "seen 1 5;seen 1", "grid 1 1;gone 4;"};
        int[] places = {0, 9, 12, 14, 16};
        // the twin has read a text that tells nothing ahead of the same fault
        String[] shortest = {"?", "x", "size0", "size1 1", "gone30;"};
        for (int i = 0; i < texts.length; i++) {
            NoSquare x = used();
            NoSquare twin = used();
            x.end(0);
            Due.put(x, texts[i]);
            Due.due("text() of " + texts[i], x.text(), -10 - places[i]);
            twin.end(0);
            Due.put(twin, shortest[i]);
            twin.text();
            Due.due("all is as it was behind " + texts[i], answers(x).equals(answers(twin)) ? 1 : 0, 1);
        }
    }

    private static void askingOnly() {
        Due.edge("Nothing is promised beyond the answers and state changes described above");
        Call[] asks = {
            x -> x.fault(), x -> x.rule(4), x -> x.square(0, 3), x -> x.cost(0), x -> x.whole(1), x -> x.left(),
            x -> x.fewest(0), x -> x.fewest(1), x -> x.fewest(2), x -> x.cheapest(0), x -> x.cheapest(1),
            x -> x.without(3), x -> x.alike(1, 2), x -> x.between(4), x -> x.just(4, 1, 0), x -> x.just(4, 1, 1),
            x -> x.riddle(1, 2, 0), x -> x.riddle(2, 2, 1), x -> x.riddle(2, 2, 2), x -> x.taking(0),
            x -> x.laying(0), x -> x.laying(1), x -> x.boxes(0), x -> x.boxes(1), x -> x.mean(0), x -> x.chance(1),
            x -> x.gone(2, 0), x -> x.gone(3, 1), x -> x.gone(4, 2), x -> x.play(7, 60), x -> x.torn(), x -> x.count(5),
        };
        for (int i = 0; i < asks.length; i++) {
            NoSquare x = used();
            long said = asks[i].on(x);
            Due.due("asked again, " + i, asks[i].on(x), said);
            Due.due("all is as it was behind ask " + i, answers(x).equals(answers(used())) ? 1 : 0, 1);
        }
        NoSquare small = new NoSquare();
        small.taking(0);
        small.chance(0);
        Due.due("all is as it was behind a game", answers(small).equals(answers(new NoSquare())) ? 1 : 0, 1);
    }

    private static void firstThatFits() {
        Due.edge("STATE -2 (as told), FULL -3, NONE -4 (there is none), the first that fits");
        NoSquare all = Due.taken("grid 4 3;", 1);
        Due.due("taking(2) of 31", all.taking(2), BAD);
        Due.due("laying(2) of all", all.laying(2), BAD);
        Due.due("boxes(-1) of all", all.boxes(-1), BAD);
        Due.due("chance(2) of 31", all.chance(2), BAD);
        Due.due("back(2) of no image", all.back(2), BAD);
        Due.due("riddle(3, 0, 1) of no place", all.riddle(3, 0, 1), BAD);
        Due.due("riddle(1, 21, 1) of no place", all.riddle(1, 21, 1), BAD);
        NoSquare none = Due.taken("grid 1 1;gone 0 1 2 3;", 2);
        Due.due("taking(1) of nothing", none.taking(1), STATE);
        Due.due("taking(2) of nothing", none.taking(2), BAD);
        Due.due("between(5) of none", none.between(5), BAD);
        Due.due("between(4) of none", none.between(4), NONE);
        Due.due("just(5, 0, 1) of none", none.just(5, 0, 1), BAD);
        Due.due("just(4, 21, 1) of none", none.just(4, 21, 1), BAD);
        Due.due("gone(5, 1) of none", none.gone(5, 1), BAD);
        Due.due("gone(4, 3) of none", none.gone(4, 3), BAD);
        Due.due("take(4) of none", none.take(4), BAD);
        Due.due("lay(4, -1, 0)", none.lay(4, -1, 0), BAD);
        Due.due("lay(0, -1, 0)", none.lay(0, -1, 0), -11);
        Due.due("sheet(4, 0, -1)", none.sheet(4, 0, -1), BAD);
        Due.due("sheet(0, 3, -1)", none.sheet(0, 3, -1), BAD);
        Due.due("see(4, 13)", none.see(4, 13), BAD);
    }

    public static void main(String[] args) throws Exception {
        refused();
        askingOnly();
        firstThatFits();
        Due.finish(args);
    }
}
