import java.math.BigInteger;
import java.nio.charset.StandardCharsets;
import java.util.ArrayList;
import java.util.Arrays;
import java.util.HashMap;
import java.util.HashSet;
import java.util.List;
import java.util.Map;
import java.util.Random;
import java.util.Set;
import java.util.TreeMap;
import java.util.regex.Matcher;
import java.util.regex.Pattern;

/**
 * Runs of calls drawn by fixed seeds, each answered by NoSquare and by a plain model that was
 * written from the document alone and tries everything out.
 */
public final class AgainstPlain {
    private static final int BAD = -1, STATE = -2, FULL = -3, NONE = -4;

    // ---- the plain model

    private static final class Image {
        int lying;
        int[] costs;
        Set<Integer> sizes;
        Map<Integer, Integer> seen;
    }

    private static final class Refused extends RuntimeException {
        private static final long serialVersionUID = 1;
        final int fault;
        final int place;

        Refused(int fault, int place) {
            this.fault = fault;
            this.place = place;
        }
    }

    private static final class Plain {
        int wide = 2;
        int high = 2;
        List<int[]> segments;
        List<int[]> squares;
        Image now = new Image();
        Map<Integer, Image> images = new TreeMap<>();
        Object[] sheets = new Object[4];
        String tape = "";
        int fault;
        int torn;

        Plain() {
            form();
            fresh();
        }

        int matches() {
            return segments.size();
        }

        int all() {
            int set = 0;
            for (int m = 0; m < matches(); m++) {
                set |= 1 << m;
            }
            return set;
        }

        /** A segment is x, y of its upper left end and of its other end. */
        void form() {
            segments = new ArrayList<>();
            for (int y = 0; y <= high; y++) {
                for (int x = 0; x < wide; x++) {
                    segments.add(new int[] {x, y, x + 1, y});
                }
            }
            for (int y = 0; y < high; y++) {
                for (int x = 0; x <= wide; x++) {
                    segments.add(new int[] {x, y, x, y + 1});
                }
            }
            squares = new ArrayList<>();
            for (int size = 1; size <= 3; size++) {
                for (int y = 0; y + size <= high; y++) {
                    for (int x = 0; x + size <= wide; x++) {
                        squares.add(new int[] {size, y, x, rim(size, y, x)});
                    }
                }
            }
        }

        int find(int x, int y, int x2, int y2) {
            for (int m = 0; m < segments.size(); m++) {
                if (Arrays.equals(segments.get(m), new int[] {x, y, x2, y2})) {
                    return m;
                }
            }
            throw new IllegalStateException();
        }

        int rim(int size, int y, int x) {
            int set = 0;
            for (int m = 0; m < segments.size(); m++) {
                int[] s = segments.get(m);
                boolean within = s[0] >= x && s[2] <= x + size && s[1] >= y && s[3] <= y + size;
                boolean edgeAcross = s[1] == s[3] && (s[1] == y || s[1] == y + size);
                boolean edgeStanding = s[0] == s[2] && (s[0] == x || s[0] == x + size);
                if (within && (edgeAcross || edgeStanding)) {
                    set |= 1 << m;
                }
            }
            return set;
        }

        void fresh() {
            now = new Image();
            now.lying = all();
            now.costs = new int[matches()];
            Arrays.fill(now.costs, 1);
            now.sizes = new HashSet<>(List.of(1, 2, 3));
            now.seen = new TreeMap<>();
        }

        int wholeOf(int lying, int size) {
            int n = 0;
            for (int[] q : squares) {
                if (q[0] == size && (lying & q[3]) == q[3]) {
                    n++;
                }
            }
            return n;
        }

        int leftOf(int lying) {
            int n = 0;
            for (int[] q : squares) {
                if (now.sizes.contains(q[0]) && (lying & q[3]) == q[3]) {
                    n++;
                }
            }
            return n;
        }

        boolean isMatch(int m) {
            return m >= 0 && m < matches();
        }

        // the text

        int feed(long v) {
            if (tape.length() > 312) {
                return FULL;
            }
            byte[] bytes = BigInteger.valueOf(v).toByteArray();
            byte[] eight = new byte[8];
            Arrays.fill(eight, (byte) (v < 0 ? -1 : 0));
            System.arraycopy(bytes, 0, eight, 8 - bytes.length, bytes.length);
            tape += new String(eight, StandardCharsets.ISO_8859_1);
            return tape.length();
        }

        int end(int n) {
            if (n < 0 || n > tape.length()) {
                return BAD;
            }
            int had = tape.length();
            tape = tape.substring(0, n);
            return had;
        }

        private int at;
        private int start;
        private String token;

        /** The next token; "" at the end. */
        String next(String told) {
            Matcher blanks = Pattern.compile(" *").matcher(told).region(at, told.length());
            blanks.lookingAt();
            start = blanks.end();
            Matcher m = Pattern.compile("[a-z]+|[0-9]+|;").matcher(told).region(start, told.length());
            if (start == told.length()) {
                token = "";
            } else if (!m.lookingAt() || m.group().matches("[0-9]{3,}")) {
                throw new Refused(1, start);
            } else {
                token = m.group();
                at = m.end();
            }
            return token;
        }

        int numberHere(int low, int top) {
            if (!token.matches("[0-9]+")) {
                throw new Refused(2, start);
            }
            int n = Integer.parseInt(token);
            if (n < low || n > top) {
                throw new Refused(3, start);
            }
            return n;
        }

        int number(String told, int low, int top) {
            next(told);
            return numberHere(low, top);
        }

        void newOne(Set<Integer> before, int n) {
            if (!before.add(n)) {
                throw new Refused(4, start);
            }
        }

        void stop(String told) {
            if (!next(told).equals(";")) {
                throw new Refused(2, start);
            }
        }

        void list(String told, Set<Integer> into, int low, int top) {
            newOne(into, number(told, low, top));
            while (!next(told).equals(";")) {
                newOne(into, numberHere(low, top));
            }
        }

        int text() {
            String told = tape;
            tape = "";
            at = 0;
            int lines = 0;
            int[] grid = null;
            Set<Integer> gone = new HashSet<>();
            Set<Integer> sizes = new HashSet<>();
            Map<Integer, Integer> costs = new HashMap<>();
            Map<Integer, Integer> seen = new TreeMap<>();
            try {
                while (!next(told).equals("")) {
                    switch (token) {
                        case "grid":
                            if (grid != null) {
                                throw new Refused(4, start);
                            }
                            grid = new int[] {number(told, 1, 4), number(told, 1, 3)};
                            stop(told);
                            break;
                        case "gone":
                            list(told, gone, 0, 30);
                            break;
                        case "size":
                            list(told, sizes, 1, 3);
                            break;
                        case "cost":
                            pair(told, costs, new int[] {0, 30, 1, 9});
                            break;
                        case "seen":
                            pair(told, seen, new int[] {1, 3, 0, 12});
                            break;
                        default:
                            throw new Refused(2, start);
                    }
                    lines++;
                }
                int w = grid == null ? 2 : grid[0];
                int h = grid == null ? 2 : grid[1];
                int places = w * (h + 1) + h * (w + 1);
                Set<Integer> named = new HashSet<>(gone);
                named.addAll(costs.keySet());
                for (int m : named) {
                    if (m >= places) {
                        throw new Refused(5, told.length());
                    }
                }
                wide = w;
                high = h;
            } catch (Refused r) {
                fault = r.fault;
                return -10 - r.place;
            }
            form();
            fresh();
            for (int m : gone) {
                now.lying &= ~(1 << m);
            }
            for (int m : costs.keySet()) {
                now.costs[m] = costs.get(m);
            }
            if (!sizes.isEmpty()) {
                now.sizes = sizes;
            }
            now.seen = seen;
            images.clear();
            fault = 0;
            return lines;
        }

        void pair(String told, Map<Integer, Integer> into, int[] bounds) {
            int key = number(told, bounds[0], bounds[1]);
            if (into.containsKey(key)) {
                throw new Refused(4, start);
            }
            into.put(key, number(told, bounds[2], bounds[3]));
            stop(told);
        }

        int rule(int what) {
            int sizes = 0;
            for (int size : now.sizes) {
                sizes |= 1 << size;
            }
            int[] answers = {wide, high, matches(), squares.size(), now.lying, sizes};
            return what < 0 || what > 5 ? BAD : answers[what];
        }

        int square(int q, int what) {
            if (q < 0 || q >= squares.size() || what < 0 || what > 4) {
                return BAD;
            }
            int[] s = squares.get(q);
            return what < 4 ? s[what] : (now.lying & s[3]) == s[3] ? 1 : 0;
        }

        int cost(int m) {
            return isMatch(m) ? now.costs[m] : BAD;
        }

        int whole(int size) {
            return size < 1 || size > 3 ? BAD : wholeOf(now.lying, size);
        }

        // what is changed

        int take(int m) {
            if (!isMatch(m)) {
                return BAD;
            }
            if ((now.lying & 1 << m) == 0) {
                return STATE;
            }
            now.lying -= 1 << m;
            return leftOf(now.lying);
        }

        int lie(int m) {
            if (!isMatch(m)) {
                return BAD;
            }
            if ((now.lying & 1 << m) != 0) {
                return STATE;
            }
            now.lying += 1 << m;
            return leftOf(now.lying);
        }

        int price(int m, int v) {
            if (!isMatch(m) || v < 1 || v > 9) {
                return BAD;
            }
            int was = now.costs[m];
            now.costs[m] = v;
            return was;
        }

        int counts(int size, boolean is) {
            if (size < 1 || size > 3) {
                return BAD;
            }
            int was = now.sizes.contains(size) ? 1 : 0;
            if (is) {
                now.sizes.add(size);
            } else {
                now.sizes.remove(size);
            }
            return was;
        }

        // fewest: match by match, over which squares are broken by then

        int[] breakAll(int[] costs) {
            List<int[]> there = new ArrayList<>();
            for (int[] q : squares) {
                if (now.sizes.contains(q[0]) && (now.lying & q[3]) == q[3]) {
                    there.add(q);
                }
            }
            Map<Integer, int[]> reached = new HashMap<>();
            reached.put(0, new int[] {0, 0, 1});
            for (int m = 0; m < matches(); m++) {
                int hit = 0;
                int late = 0;
                for (int q = 0; q < there.size(); q++) {
                    int rim = there.get(q)[3];
                    if ((rim & 1 << m) != 0) {
                        hit |= 1 << q;
                        if (rim >>> m == 1) {
                            late |= 1 << q;
                        }
                    }
                }
                if (hit == 0) {
                    continue;
                }
                Map<Integer, int[]> then = new HashMap<>();
                for (Map.Entry<Integer, int[]> e : reached.entrySet()) {
                    int broken = e.getKey();
                    int[] v = e.getValue();
                    if ((late & ~broken) == 0) {
                        better(then, broken, v);
                    }
                    better(then, broken | hit, new int[] {v[0] + costs[m], v[1] | 1 << m, v[2]});
                }
                reached = then;
            }
            return reached.get((1 << there.size()) - 1);
        }

        static void better(Map<Integer, int[]> at, int key, int[] v) {
            int[] old = at.get(key);
            if (old == null || v[0] < old[0]) {
                at.put(key, v);
            } else if (v[0] == old[0]) {
                at.put(key, new int[] {v[0], Math.min(old[1], v[1]), old[2] + v[2]});
            }
        }

        int fewest(int what) {
            if (what < 0 || what > 2) {
                return BAD;
            }
            int[] ones = new int[matches()];
            Arrays.fill(ones, 1);
            return breakAll(ones)[what];
        }

        int cheapest(int what) {
            return what < 0 || what > 1 ? BAD : breakAll(now.costs)[what];
        }

        int without(int set) {
            return (set | now.lying) != now.lying ? BAD : leftOf(now.lying - set);
        }

        int alike(int a, int b) {
            if ((a | all()) != all() || (b | all()) != all()) {
                return BAD;
            }
            Set<Integer> reached = new HashSet<>();
            List<Integer> open = new ArrayList<>(List.of(a));
            while (!open.isEmpty()) {
                int set = open.remove(open.size() - 1);
                if (reached.add(set)) {
                    for (int way = 0; way < (wide == high ? 3 : 2); way++) {
                        open.add(turned(set, way));
                    }
                }
            }
            return reached.contains(b) ? 1 : 0;
        }

        int turned(int set, int way) {
            int there = 0;
            for (int m = 0; m < matches(); m++) {
                if ((set & 1 << m) != 0) {
                    int[] s = segments.get(m);
                    int[] p = point(s[0], s[1], way);
                    int[] q = point(s[2], s[3], way);
                    there |= 1 << find(Math.min(p[0], q[0]), Math.min(p[1], q[1]),
                            Math.max(p[0], q[0]), Math.max(p[1], q[1]));
                }
            }
            return there;
        }

        int[] point(int x, int y, int way) {
            if (way == 0) {
                return new int[] {wide - x, y};
            }
            return way == 1 ? new int[] {x, high - y} : new int[] {wide - y, x};
        }

        // just so many

        /** All sets of n of these, in no order that is told. */
        static List<Integer> sets(int of, int n) {
            List<Integer> sets = new ArrayList<>();
            collect(of, n, 0, 0, sets);
            return sets;
        }

        static void collect(int of, int n, int from, int set, List<Integer> into) {
            if (n == 0) {
                into.add(set);
                return;
            }
            for (int m = from; m < 31; m++) {
                if ((of & 1 << m) != 0) {
                    collect(of, n - 1, m + 1, set | 1 << m, into);
                }
            }
        }

        int between(int n) {
            if (n < 0 || n > 4) {
                return BAD;
            }
            if (Integer.bitCount(now.lying) < n) {
                return NONE;
            }
            int bits = 0;
            for (int set : sets(now.lying, n)) {
                bits |= 1 << leftOf(now.lying - set);
            }
            return bits;
        }

        int just(int n, int k, int what) {
            if (n < 0 || n > 4 || k < 0 || k > 20 || what < 0 || what > 1) {
                return BAD;
            }
            List<Integer> fit = new ArrayList<>();
            for (int set : sets(now.lying, n)) {
                if (leftOf(now.lying - set) == k) {
                    fit.add(set);
                }
            }
            return told(fit, what);
        }

        static int told(List<Integer> fit, int what) {
            if (what == 0) {
                return fit.size();
            }
            if (fit.isEmpty()) {
                return NONE;
            }
            int least = Integer.MAX_VALUE;
            int common = -1;
            for (int set : fit) {
                least = Math.min(least, set);
                common &= set;
            }
            return what == 1 ? least : common;
        }

        int riddle(int n, int k, int what) {
            if (n < 1 || n > 2 || k < 0 || k > 20 || what < 0 || what > 2) {
                return BAD;
            }
            int number = 0;
            long first = Long.MAX_VALUE;
            List<Integer> lays = sets(all() - now.lying, n);
            for (int taken : sets(now.lying, n)) {
                for (int laid : lays) {
                    if (leftOf(now.lying - taken + laid) == k) {
                        number++;
                        first = Math.min(first, (long) taken << 31 | laid);
                    }
                }
            }
            if (what == 0) {
                return number;
            }
            if (number == 0) {
                return NONE;
            }
            return (int) (what == 1 ? first >>> 31 : first & 0x7fffffff);
        }

        // games

        boolean takerWins(int lying, Map<Integer, Boolean> known) {
            Boolean told = known.get(lying);
            if (told == null) {
                told = false;
                for (int m = 0; m < matches() && !told; m++) {
                    told = (lying & 1 << m) != 0 && winsBy(lying, m, known);
                }
                known.put(lying, told);
            }
            return told;
        }

        boolean winsBy(int lying, int m, Map<Integer, Boolean> known) {
            int then = lying - (1 << m);
            return leftOf(then) == 0 || !takerWins(then, known);
        }

        int taking(int what) {
            if (what < 0 || what > 1) {
                return BAD;
            }
            if (leftOf(now.lying) == 0 || Integer.bitCount(now.lying) > 12) {
                return STATE;
            }
            Map<Integer, Boolean> known = new HashMap<>();
            for (int m = 0; m < matches(); m++) {
                if ((now.lying & 1 << m) != 0 && winsBy(now.lying, m, known)) {
                    return what == 0 ? 1 : m;
                }
            }
            return what == 0 ? 2 : NONE;
        }

        /** 1, 0, -1 (laying), the margin (boxes), for who is to lay. */
        int worth(int lying, boolean boxes, Map<Integer, Integer> known) {
            if (lying == all()) {
                return 0;
            }
            Integer told = known.get(lying);
            if (told == null) {
                told = Integer.MIN_VALUE;
                for (int m = 0; m < matches(); m++) {
                    if ((lying & 1 << m) == 0) {
                        told = Math.max(told, worthBy(lying, m, boxes, known));
                    }
                }
                known.put(lying, told);
            }
            return told;
        }

        int worthBy(int lying, int m, boolean boxes, Map<Integer, Integer> known) {
            int then = lying + (1 << m);
            int more = leftOf(then) - leftOf(lying);
            if (more == 0) {
                return -worth(then, boxes, known);
            }
            return boxes ? more + worth(then, true, known) : 1;
        }

        int layingGame(int what, boolean boxes) {
            int free = matches() - Integer.bitCount(now.lying);
            if (what < 0 || what > 1) {
                return BAD;
            }
            if (free == 0 || free > 12) {
                return STATE;
            }
            Map<Integer, Integer> known = new HashMap<>();
            int best = worth(now.lying, boxes, known);
            if (what == 0) {
                return boxes ? best + 100 : best == -1 ? 2 : best;
            }
            for (int m = 0; m < matches(); m++) {
                if ((now.lying & 1 << m) == 0 && worthBy(now.lying, m, boxes, known) == best) {
                    return m;
                }
            }
            throw new IllegalStateException();
        }

        // by coin

        static long fraction(BigInteger above, BigInteger below, int what) {
            BigInteger by = above.gcd(below);
            return (what == 0 ? above : below).divide(by).longValueExact();
        }

        long mean(int what) {
            if (what < 0 || what > 1) {
                return BAD;
            }
            BigInteger sum = BigInteger.ZERO;
            for (int[] q : squares) {
                if (now.sizes.contains(q[0]) && (now.lying & q[3]) == q[3]) {
                    sum = sum.add(BigInteger.TWO.pow(31 - Integer.bitCount(q[3])));
                }
            }
            return fraction(sum, BigInteger.TWO.pow(31), what);
        }

        long chance(int what) {
            if (what < 0 || what > 1) {
                return BAD;
            }
            if (Integer.bitCount(now.lying) > 16) {
                return STATE;
            }
            long none = 0;
            long ways = 0;
            int set = now.lying;
            boolean more = true;
            while (more) {
                ways++;
                none += leftOf(set) == 0 ? 1 : 0;
                more = set != 0;
                set = set - 1 & now.lying;
            }
            return fraction(BigInteger.valueOf(none), BigInteger.valueOf(ways), what);
        }

        // seen

        int see(int size, int n) {
            if (size < 1 || size > 3 || n > 12 || n < 0 && n != NONE) {
                return BAD;
            }
            Integer was = n == NONE ? now.seen.remove(size) : now.seen.put(size, n);
            return was == null ? NONE : was;
        }

        int gone(int n, int what) {
            if (n < 0 || n > 4 || what < 0 || what > 2) {
                return BAD;
            }
            List<Integer> fit = new ArrayList<>();
            for (int set : sets(now.lying, n)) {
                boolean so = true;
                for (int size : now.seen.keySet()) {
                    so &= wholeOf(now.lying - set, size) == now.seen.get(size);
                }
                if (so) {
                    fit.add(set);
                }
            }
            return told(fit, what);
        }

        int play(int seed, int n) {
            if (n < 0 || n > 60) {
                return BAD;
            }
            int lying = now.lying;
            BigInteger s = BigInteger.valueOf(seed);
            for (int i = 0; i < n; i++) {
                s = s.multiply(BigInteger.valueOf(1103515245)).add(BigInteger.valueOf(12345));
                s = BigInteger.valueOf(s.intValue());
                int bits = s.shiftRight(16).and(BigInteger.valueOf(0x7fff)).intValue();
                lying &= ~(1 << bits % matches());
            }
            return leftOf(lying);
        }

        // images, sheets

        static Image copy(Image of) {
            Image c = new Image();
            c.lying = of.lying;
            c.costs = of.costs.clone();
            c.sizes = new HashSet<>(of.sizes);
            c.seen = new TreeMap<>(of.seen);
            return c;
        }

        int keep(int k) {
            if (k != 0 && k != 1) {
                return BAD;
            }
            return images.put(k, copy(now)) == null ? 0 : 1;
        }

        int back(int k) {
            if (k != 0 && k != 1) {
                return BAD;
            }
            if (!images.containsKey(k)) {
                return STATE;
            }
            now = copy(images.get(k));
            return leftOf(now.lying);
        }

        int sheet(int k, int lane, int n) {
            if (k < 0 || k > 3 || lane < 0 || lane > 2 || n > 40) {
                return BAD;
            }
            try {
                sheets[k] = lane == 0 ? new byte[n] : lane == 1 ? new short[n] : new int[n];
            } catch (NegativeArraySizeException e) {
                return -14;
            }
            return 1;
        }

        int lay(int k, int i, int v) {
            if (k < 0 || k > 3) {
                return BAD;
            }
            try {
                if (sheets[k] instanceof byte[] b) {
                    b[i] = (byte) v;
                } else if (sheets[k] instanceof short[] s) {
                    s[i] = (short) v;
                } else {
                    ((int[]) sheets[k])[i] = v;
                }
            } catch (NullPointerException e) {
                return -11;
            } catch (ArrayIndexOutOfBoundsException e) {
                return -12;
            }
            return 1;
        }

        int read(int k, int lane, int f, int n) {
            if (k < 0 || k > 3 || lane < 0 || lane > 2 || n < 0 || n > 20) {
                return BAD;
            }
            int before = now.lying;
            int found = 0;
            int i = 0;
            try {
                for (; i < n; i++) {
                    int m = lane == 0 ? ((byte[]) sheets[k])[f + i]
                            : lane == 1 ? ((short[]) sheets[k])[f + i] : ((int[]) sheets[k])[f + i];
                    if (take(m) < 0) {
                        now.lying = before;
                        return -20 - i;
                    }
                }
            } catch (NullPointerException e) {
                found = 1;
            } catch (ArrayIndexOutOfBoundsException e) {
                found = 2;
            } catch (ClassCastException e) {
                found = 3;
            }
            torn = found;
            return i;
        }

        int count(int what) {
            int sum = 0;
            for (int m = 0; m < matches(); m++) {
                sum += (now.lying & 1 << m) != 0 ? now.costs[m] : 0;
            }
            int cells = sheets[0] == null ? NONE : java.lang.reflect.Array.getLength(sheets[0]);
            int[] answers = {Integer.bitCount(now.lying), now.seen.size(), images.size(), tape.length(), cells, sum};
            return what < 0 || what > 5 ? BAD : answers[what];
        }
    }

    // ---- runs

    private static int wrong;
    private static long calls;
    private static final List<String> story = new ArrayList<>();

    private static void due(String call, long got, long want) {
        calls++;
        story.add(call + " -> " + want);
        if (got != want && wrong++ < 20) {
            System.out.println(String.join("\n", story));
            System.out.println("   answered " + got + ", due is " + want);
        }
    }

    private final Random random;
    private final NoSquare x = new NoSquare();
    private final Plain y = new Plain();

    private AgainstPlain(long seed) {
        random = new Random(seed);
    }

    private int pick(int low, int top) {
        return low + random.nextInt(top - low + 1);
    }

    /** Mostly from low to top, now and then out of it or far off. */
    private int near(int low, int top) {
        int way = random.nextInt(40);
        if (way == 0) {
            return low - 1;
        }
        if (way == 1) {
            return top + 1;
        }
        if (way == 2) {
            return random.nextInt();
        }
        return pick(low, top);
    }

    private String randomText() {
        int w = pick(1, 4);
        int h = pick(1, 3);
        int places = w * (h + 1) + h * (w + 1);
        List<String> lines = new ArrayList<>();
        if (random.nextInt(8) > 0) {
            lines.add("grid " + w + gap(true) + h + ";");
        }
        int share = random.nextInt(101);
        StringBuilder gone = new StringBuilder();
        for (int m = 0; m < places; m++) {
            if (random.nextInt(100) < share) {
                gone.append(' ').append(m < 10 && random.nextInt(9) == 0 ? "0" : "").append(m);
            }
        }
        if (gone.length() > 0 && random.nextInt(3) > 0) {
            lines.add("gone" + gone + gap(false) + ";");
        }
        int dearest = random.nextBoolean() ? 9 : 2;
        for (int m = random.nextInt(places); m < places; m += pick(1, 6)) {
            lines.add("cost " + m + " " + pick(1, dearest) + gap(false) + ";");
        }
        if (random.nextInt(3) == 0) {
            int size = pick(1, 3);
            lines.add("size " + size + (random.nextBoolean() ? "" : " " + (size % 3 + 1)) + ";");
        }
        for (int size = pick(1, 6); size <= 3; size++) {
            lines.add("seen" + gap(false) + size + " " + pick(0, random.nextBoolean() ? 3 : 12) + ";");
        }
        if (random.nextInt(4) == 0) {
            lines.add(wrongLine());
        }
        if (random.nextInt(3) == 0) {
            java.util.Collections.shuffle(lines, random);
        }
        return String.join(gap(false), lines) + gap(false);
    }

    /** It may be wrong by its number, or by what the other lines tell. */
    private String wrongLine() {
        switch (random.nextInt(5)) {
            case 0:
                return "grid " + near(1, 4) + " " + near(1, 3) + ";";
            case 1:
                return "gone " + pick(0, 32) + ";";
            case 2:
                return "cost " + pick(0, 32) + " " + pick(0, 10) + ";";
            case 3:
                return "size " + pick(0, 4) + ";";
            default:
                return "seen " + pick(0, 4) + " " + pick(0, 13) + ";";
        }
    }

    private String gap(boolean some) {
        return " ".repeat(random.nextInt(4) == 0 ? pick(some ? 1 : 0, 3) : some ? 1 : 0);
    }

    private String spoilt(String text) {
        StringBuilder s = new StringBuilder(text);
        String signs = "abegnost0123456789;;   A\u00e9\u0000-";
        for (int i = random.nextInt(3); i > 0 && s.length() > 0; i--) {
            int at = random.nextInt(s.length());
            char sign = signs.charAt(random.nextInt(signs.length()));
            switch (random.nextInt(4)) {
                case 0:
                    s.setCharAt(at, sign);
                    break;
                case 1:
                    s.insert(at, sign);
                    break;
                case 2:
                    s.deleteCharAt(at);
                    break;
                default:
                    s.setLength(at);
            }
        }
        return s.toString();
    }

    private void tell(String text) {
        byte[] bytes = text.getBytes(StandardCharsets.ISO_8859_1);
        due("end(0)", x.end(0), y.end(0));
        for (int i = 0; i < bytes.length; i += 8) {
            long v = 0;
            for (int j = 0; j < 8; j++) {
                v = v << 8 | (i + j < bytes.length ? bytes[i + j] & 255 : 32);
            }
            due("feed(" + v + ")", x.feed(v), y.feed(v));
        }
        due("end(" + bytes.length + ")", x.end(bytes.length), y.end(bytes.length));
        due("text() of " + text, x.text(), y.text());
        due("fault()", x.fault(), y.fault);
    }

    private void look() {
        for (int i = 0; i < 6; i++) {
            due("rule(" + i + ")", x.rule(i), y.rule(i));
            due("count(" + i + ")", x.count(i), y.count(i));
        }
        for (int i = 0; i <= 4; i++) {
            due("whole(" + i + ")", x.whole(i), y.whole(i));
        }
        due("left()", x.left(), y.leftOf(y.now.lying));
        due("torn()", x.torn(), y.torn);
        due("fault()", x.fault(), y.fault);
        for (int m = -1; m <= 31; m += pick(1, 9)) {
            due("cost(" + m + ")", x.cost(m), y.cost(m));
        }
        int q = near(0, y.squares.size() - 1);
        for (int what = -1; what <= 5; what++) {
            due("square(" + q + ", " + what + ")", x.square(q, what), y.square(q, what));
        }
    }

    private void change() {
        int a = near(0, y.matches() - 1);
        int b = near(1, 3);
        switch (random.nextInt(10)) {
            case 0:
            case 1:
            case 2:
                due("take(" + a + ")", x.take(a), y.take(a));
                break;
            case 3:
            case 4:
                due("lie(" + a + ")", x.lie(a), y.lie(a));
                break;
            case 5:
                int v = near(1, 9);
                due("price(" + a + ", " + v + ")", x.price(a, v), y.price(a, v));
                break;
            case 6:
                boolean is = random.nextInt(3) > 0;
                due("counts(" + b + ", " + is + ")", x.counts(b, is), y.counts(b, is));
                break;
            case 7:
                int n = random.nextInt(3) == 0 ? NONE : near(0, random.nextBoolean() ? 3 : 12);
                due("see(" + b + ", " + n + ")", x.see(b, n), y.see(b, n));
                break;
            case 8:
                due("keep(" + (b - 1) + ")", x.keep(b - 1), y.keep(b - 1));
                break;
            default:
                due("back(" + (b - 1) + ")", x.back(b - 1), y.back(b - 1));
        }
    }

    private void sheets() {
        int k = near(0, 3);
        int lane = near(0, 2);
        switch (random.nextInt(6)) {
            case 5:
                readFilled(k, lane);
                break;
            case 0:
                int n = near(0, random.nextBoolean() ? 6 : 40);
                due("sheet(" + k + ", " + lane + ", " + n + ")", x.sheet(k, lane, n), y.sheet(k, lane, n));
                break;
            case 1:
                int f = near(0, 6);
                int many = near(0, random.nextBoolean() ? 4 : 20);
                due("read(" + k + ", " + lane + ", " + f + ", " + many + ")", x.read(k, lane, f, many),
                        y.read(k, lane, f, many));
                due("torn()", x.torn(), y.torn);
                break;
            default:
                int i = near(0, 8);
                int v = near(0, y.matches() - 1);
                v += random.nextInt(6) == 0 ? pick(-3, 3) << 8 * pick(1, 2) : 0;
                due("lay(" + k + ", " + i + ", " + v + ")", x.lay(k, i, v), y.lay(k, i, v));
        }
    }

    /** A sheet of matches of which most can be taken, so that a read() comes far. */
    private void readFilled(int k, int lane) {
        int n = pick(0, 6);
        due("sheet(" + k + ", " + lane + ", " + n + ")", x.sheet(k, lane, n), y.sheet(k, lane, n));
        int m = 0;
        for (int i = 0; i < n; i++) {
            m += random.nextInt(3);
            for (int tries = 0; tries < 31 && (y.now.lying >> m & 1) == 0; tries++) {
                m = (m + 1) % 31;
            }
            due("lay(" + k + ", " + i + ", " + m + ")", x.lay(k, i, m), y.lay(k, i, m));
            m += random.nextInt(6) == 0 ? 0 : 1;
        }
        int f = random.nextInt(3) == 0 ? near(0, n) : 0;
        int many = random.nextInt(3) == 0 ? near(0, 20) : n;
        due("read(" + k + ", " + lane + ", " + f + ", " + many + ")", x.read(k, lane, f, many),
                y.read(k, lane, f, many));
        due("torn()", x.torn(), y.torn);
    }

    private void ask() {
        int what = near(0, 1);
        switch (random.nextInt(13)) {
            case 0:
                for (int i = -1; i <= 3; i++) {
                    due("fewest(" + i + ")", x.fewest(i), y.fewest(i));
                }
                break;
            case 1:
                for (int i = -1; i <= 2; i++) {
                    due("cheapest(" + i + ")", x.cheapest(i), y.cheapest(i));
                }
                break;
            case 2:
                int set = random.nextInt() & random.nextInt() & random.nextInt();
                set &= random.nextInt(4) == 0 ? -1 : y.now.lying;
                due("without(" + set + ")", x.without(set), y.without(set));
                break;
            case 3:
                askAlike();
                break;
            case 4:
                int n = near(0, y.now.lying > 1 << 24 ? 3 : 4);
                due("between(" + n + ")", x.between(n), y.between(n));
                break;
            case 5:
                askJust();
                break;
            case 6:
                askRiddle();
                break;
            case 7:
                due("taking(" + what + ")", x.taking(what), y.taking(what));
                break;
            case 8:
                due("laying(" + what + ")", x.laying(what), y.layingGame(what, false));
                break;
            case 9:
                due("boxes(" + what + ")", x.boxes(what), y.layingGame(what, true));
                break;
            case 10:
                due("mean(" + what + ")", x.mean(what), y.mean(what));
                due("chance(" + what + ")", x.chance(what), y.chance(what));
                break;
            case 11:
                askGone();
                break;
            default:
                int seed = random.nextInt();
                int many = near(0, random.nextBoolean() ? 5 : 60);
                due("play(" + seed + ", " + many + ")", x.play(seed, many), y.play(seed, many));
        }
    }

    private void askAlike() {
        int a = random.nextInt() & random.nextInt() & y.all();
        int b = a;
        for (int i = random.nextInt(4); i > 0; i--) {
            b = y.turned(b, random.nextInt(y.wide == y.high ? 3 : 2));
        }
        if (random.nextInt(3) == 0) {
            b ^= 1 << random.nextInt(32);
        }
        due("alike(" + a + ", " + b + ")", x.alike(a, b), y.alike(a, b));
        due("alike(" + b + ", " + a + ")", x.alike(b, a), y.alike(b, a));
    }

    private void askJust() {
        int n = near(0, y.now.lying > 1 << 24 ? 3 : 4);
        int left = y.leftOf(y.now.lying);
        int k = random.nextInt(4) == 0 ? near(0, 20) : pick(Math.max(0, left - 8), left);
        for (int what = -1; what <= 2; what++) {
            due("just(" + n + ", " + k + ", " + what + ")", x.just(n, k, what), y.just(n, k, what));
        }
    }

    private void askRiddle() {
        int n = random.nextInt(12) == 0 ? near(1, 2) : pick(1, 2);
        int left = y.leftOf(y.now.lying);
        int k = random.nextInt(4) == 0 ? near(0, 20) : pick(Math.max(0, left - 3), Math.min(20, left + 2));
        int what = near(0, 2);
        due("riddle(" + n + ", " + k + ", " + what + ")", x.riddle(n, k, what), y.riddle(n, k, what));
    }

    private void askGone() {
        int n = near(0, y.now.lying > 1 << 24 ? 3 : 4);
        int what = near(0, 2);
        due("gone(" + n + ", " + what + ")", x.gone(n, what), y.gone(n, what));
    }

    private void run() {
        story.clear();
        if (random.nextInt(4) > 0) {
            tell(randomText());
        }
        while (story.size() < 480 && wrong == 0) {
            int way = random.nextInt(60);
            if (way == 0) {
                tell(randomText());
            } else if (way < 3) {
                tell(spoilt(randomText()));
                look();
            } else if (way == 3) {
                long v = random.nextLong();
                due("feed(" + v + ")", x.feed(v), y.feed(v));
                int n = near(0, y.tape.length());
                due("end(" + n + ")", x.end(n), y.end(n));
            } else if (way < 6) {
                look();
            } else if (way < 30) {
                change();
            } else if (way < 42) {
                sheets();
            } else {
                ask();
            }
        }
    }

    public static void main(String[] args) {
        int runs = args.length > 0 ? Integer.parseInt(args[0]) : 150;
        for (int seed = 1; seed <= runs && wrong == 0; seed++) {
            new AgainstPlain(seed).run();
        }
        System.out.println(calls + " calls, " + wrong + " answers are not as due");
        if (wrong != 0) {
            System.exit(1);
        }
    }
}
