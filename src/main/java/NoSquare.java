import java.util.Arrays;

/** Matches in a grid, and the squares that they make: see README.md. */
public final class NoSquare {
    public static final int BAD = -1, STATE = -2, FULL = -3, NONE = -4;

    private static final int WIDEST = 4;
    private static final int HIGHEST = 3;
    private static final int MOST_MATCHES = 31;
    private static final int MOST_SQUARES = 20;
    private static final int LARGEST_SIZE = 3;
    private static final int ALL_SIZES = 14;
    private static final int DEAREST = 9;
    private static final int MOST_SEEN = 12;
    private static final int MOST_PICKED = 4;
    private static final int IMAGES = 2;
    private static final int SHEETS = 4;
    private static final int LANES = 3;
    private static final int MOST_CELLS = 40;
    private static final int MOST_READ = 20;
    private static final int MOST_DRAWN = 60;
    private static final int MOST_BY_COIN = 16;

    private final Grid grid = new Grid();
    private final Table table = new Table();
    private final Tape tape = new Tape();
    private final Telling telling = new Telling(tape);
    private final Breaker breaker = new Breaker();
    private final Picker picker = new Picker();
    private final Mover mover = new Mover();
    private final Game game = new Game();
    private final Table[] images = new Table[IMAGES];
    private final Sheet[] sheets = new Sheet[SHEETS];
    private final Table sameCosts = new Table();
    private int kept;
    private int tornFault;

    public NoSquare() {
        grid.form(2, 2);
        table.renew(grid.all());
        for (int k = 0; k < IMAGES; k++) {
            images[k] = new Table();
        }
        sameCosts.renew(0);
    }

    // ---- the text

    public int feed(long v) {
        return tape.append(v) ? tape.length : FULL;
    }

    public int end(int n) {
        if (n < 0 || n > tape.length) {
            return BAD;
        }
        int had = tape.length;
        tape.length = n;
        return had;
    }

    public int text() {
        boolean taken = telling.tell();
        tape.length = 0;
        if (!taken) {
            return -10 - telling.place;
        }
        grid.form(telling.wide, telling.high);
        table.becomes(telling.draft);
        kept = 0;
        return telling.lines;
    }

    public int fault() {
        return telling.faultFound;
    }

    public int rule(int what) {
        switch (what) {
            case 0:
                return grid.wide;
            case 1:
                return grid.high;
            case 2:
                return grid.matches;
            case 3:
                return grid.squares;
            case 4:
                return table.lying;
            case 5:
                return table.counting;
            default:
                return BAD;
        }
    }

    public int square(int q, int what) {
        if (q < 0 || q >= grid.squares) {
            return BAD;
        }
        switch (what) {
            case 0:
                return grid.sizes[q];
            case 1:
                return grid.rows[q];
            case 2:
                return grid.columns[q];
            case 3:
                return grid.rims[q];
            case 4:
                return grid.wholeAmong(table.lying) >> q & 1;
            default:
                return BAD;
        }
    }

    public int cost(int m) {
        return isMatch(m) ? table.costs[m] : BAD;
    }

    public int whole(int size) {
        return isSize(size) ? Integer.bitCount(grid.wholeAmong(table.lying) & grid.ofSize[size]) : BAD;
    }

    public int left() {
        return leftOf(table.lying);
    }

    // ---- what is changed

    public int take(int m) {
        int refused = takeOne(m);
        return refused < 0 ? refused : leftOf(table.lying);
    }

    public int lie(int m) {
        if (!isMatch(m)) {
            return BAD;
        }
        if (lies(m)) {
            return STATE;
        }
        table.lying |= 1 << m;
        return leftOf(table.lying);
    }

    public int price(int m, int v) {
        if (!isMatch(m) || v < 1 || v > DEAREST) {
            return BAD;
        }
        int was = table.costs[m];
        table.costs[m] = v;
        return was;
    }

    public int counts(int size, boolean is) {
        if (!isSize(size)) {
            return BAD;
        }
        int was = table.counting >> size & 1;
        table.counting = is ? table.counting | 1 << size : table.counting & ~(1 << size);
        return was;
    }

    // ---- fewest

    public int fewest(int what) {
        if (what < 0 || what > 2) {
            return BAD;
        }
        breaker.searchAll(grid, leftSquares(table.lying), sameCosts);
        if (what == 0) {
            return breaker.best;
        }
        return what == 1 ? breaker.least : breaker.ways;
    }

    public int cheapest(int what) {
        if (what < 0 || what > 1) {
            return BAD;
        }
        breaker.searchAll(grid, leftSquares(table.lying), table);
        return what == 0 ? breaker.best : breaker.least;
    }

    public int without(int set) {
        return (set & ~table.lying) == 0 ? leftOf(table.lying & ~set) : BAD;
    }

    public int alike(int a, int b) {
        if (((a | b) & ~grid.all()) != 0) {
            return BAD;
        }
        return grid.turnsInto(a, b) ? 1 : 0;
    }

    // ---- just so many

    public int between(int n) {
        if (n < 0 || n > MOST_PICKED) {
            return BAD;
        }
        if (n > Integer.bitCount(table.lying)) {
            return NONE;
        }
        picker.wantNothing();
        picker.pickAll(grid, table.lying, n, leftSquares(table.lying));
        return picker.numbersLeft;
    }

    public int just(int n, int k, int what) {
        if (n < 0 || n > MOST_PICKED || k < 0 || k > MOST_SQUARES || what < 0 || what > 1) {
            return BAD;
        }
        picker.wantNothing();
        picker.want(leftSquares(table.lying), k);
        picker.pickAll(grid, table.lying, n, 0);
        if (what == 0) {
            return picker.found;
        }
        return picker.found == 0 ? NONE : picker.least;
    }

    public int riddle(int n, int k, int what) {
        if (n < 1 || n > 2 || k < 0 || k > MOST_SQUARES || what < 0 || what > 2) {
            return BAD;
        }
        mover.moveAll(grid, table.lying, countedSquares(), n, k);
        if (what == 0) {
            return mover.found;
        }
        if (mover.found == 0) {
            return NONE;
        }
        return what == 1 ? mover.firstTaken : mover.firstLaid;
    }

    // ---- games

    public int taking(int what) {
        if (what < 0 || what > 1) {
            return BAD;
        }
        int squares = leftSquares(table.lying);
        if (squares == 0 || Integer.bitCount(table.lying) > Game.MOST_PLACES) {
            return STATE;
        }
        game.playTaking(grid, squares, table.lying);
        if (what == 0) {
            return game.bestMatch == NONE ? 2 : 1;
        }
        return game.bestMatch;
    }

    public int laying(int what) {
        if (what < 0 || what > 1) {
            return BAD;
        }
        int places = grid.all() & ~table.lying;
        if (!canBeLaid(places)) {
            return STATE;
        }
        game.playLaying(grid, countedSquares(), places, false);
        if (what == 1) {
            return game.bestMatch;
        }
        return game.bestWorth < 0 ? 2 : game.bestWorth;
    }

    public int boxes(int what) {
        if (what < 0 || what > 1) {
            return BAD;
        }
        int places = grid.all() & ~table.lying;
        if (!canBeLaid(places)) {
            return STATE;
        }
        game.playLaying(grid, countedSquares(), places, true);
        return what == 0 ? game.bestWorth + 100 : game.bestMatch;
    }

    // ---- by coin

    public long mean(int what) {
        if (what < 0 || what > 1) {
            return BAD;
        }
        int squares = leftSquares(table.lying);
        long above = 0;
        for (int size = 1; size <= LARGEST_SIZE; size++) {
            long each = 1L << 4 * (LARGEST_SIZE - size);
            above += each * Integer.bitCount(squares & grid.ofSize[size]);
        }
        return inLowestTerms(above, 4 * LARGEST_SIZE, what);
    }

    public long chance(int what) {
        if (what < 0 || what > 1) {
            return BAD;
        }
        int lying = Integer.bitCount(table.lying);
        if (lying > MOST_BY_COIN) {
            return STATE;
        }
        return inLowestTerms(waysWithout(grid, leftSquares(table.lying), 0, 0, lying), lying, what);
    }

    // ---- seen

    public int see(int size, int n) {
        if (!isSize(size) || n != NONE && (n < 0 || n > MOST_SEEN)) {
            return BAD;
        }
        int was = table.seen[size];
        table.seen[size] = n;
        return was;
    }

    public int gone(int n, int what) {
        if (n < 0 || n > MOST_PICKED || what < 0 || what > 2) {
            return BAD;
        }
        int squares = grid.wholeAmong(table.lying);
        picker.wantNothing();
        for (int size = 1; size <= LARGEST_SIZE; size++) {
            if (table.seen[size] != NONE) {
                picker.want(squares & grid.ofSize[size], table.seen[size]);
            }
        }
        picker.pickAll(grid, table.lying, n, 0);
        if (what == 0) {
            return picker.found;
        }
        if (picker.found == 0) {
            return NONE;
        }
        return what == 1 ? picker.least : picker.common;
    }

    public int play(int seed, int n) {
        if (n < 0 || n > MOST_DRAWN) {
            return BAD;
        }
        int lying = table.lying;
        int drawn = seed;
        for (int i = 0; i < n && grid.matches > 0; i++) {
            drawn = drawn * 1103515245 + 12345;
            lying &= ~(1 << (drawn >>> 16 & 0x7fff) % grid.matches);
        }
        return leftOf(lying);
    }

    // ---- images, sheets

    public int keep(int k) {
        if (!isImage(k)) {
            return BAD;
        }
        int was = kept >> k & 1;
        images[k].becomes(table);
        kept |= 1 << k;
        return was;
    }

    public int back(int k) {
        if (!isImage(k)) {
            return BAD;
        }
        if ((kept >> k & 1) == 0) {
            return STATE;
        }
        table.becomes(images[k]);
        return leftOf(table.lying);
    }

    public int sheet(int k, int lane, int n) {
        if (!isSheet(k) || !isLane(lane) || n > MOST_CELLS) {
            return BAD;
        }
        if (n < 0) {
            return -10 - Sheet.SIZE;
        }
        sheets[k] = new Sheet(lane, n);
        return 1;
    }

    public int lay(int k, int i, int v) {
        if (!isSheet(k)) {
            return BAD;
        }
        Sheet on = sheets[k];
        if (on == null) {
            return -10 - Sheet.NULL;
        }
        if (!on.hasCell(i)) {
            return -10 - Sheet.INDEX;
        }
        on.put(i, v);
        return 1;
    }

    public int read(int k, int lane, int f, int n) {
        if (!isSheet(k) || !isLane(lane) || n < 0 || n > MOST_READ) {
            return BAD;
        }
        Sheet from = sheets[k];
        int before = table.lying;
        int taken = 0;
        int found = 0;
        // All faults are looked for cell by cell: a read() of 0 matches finds none.
        for (int i = 0; i < n && found == 0; i++) {
            if (from == null) {
                found = Sheet.NULL;
            } else if (from.lane != lane) {
                found = Sheet.CAST;
            } else if (!from.hasCell(f + i)) {
                found = Sheet.INDEX;
            } else if (takeOne(from.cells[f + i]) < 0) {
                table.lying = before;
                return -20 - i;
            } else {
                taken++;
            }
        }
        tornFault = found;
        return taken;
    }

    public int torn() {
        return tornFault;
    }

    public int count(int what) {
        switch (what) {
            case 0:
                return Integer.bitCount(table.lying);
            case 1:
                return table.sizesSeen();
            case 2:
                return Integer.bitCount(kept);
            case 3:
                return tape.length;
            case 4:
                Sheet first = sheets[0];
                return first == null ? NONE : first.cells.length;
            case 5:
                return table.costsLying();
            default:
                return BAD;
        }
    }

    // ---- what the calls share

    private boolean isMatch(int m) {
        return m >= 0 && m < grid.matches;
    }

    private static boolean isSize(int size) {
        return size >= 1 && size <= LARGEST_SIZE;
    }

    private static boolean isImage(int k) {
        return k >= 0 && k < IMAGES;
    }

    private static boolean isSheet(int k) {
        return k >= 0 && k < SHEETS;
    }

    private static boolean isLane(int lane) {
        return lane >= 0 && lane < LANES;
    }

    private boolean lies(int m) {
        return (table.lying >> m & 1) != 0;
    }

    /** 0, or the answer by which take() refuses it. */
    private int takeOne(int m) {
        if (!isMatch(m)) {
            return BAD;
        }
        if (!lies(m)) {
            return STATE;
        }
        table.lying &= ~(1 << m);
        return 0;
    }

    private static boolean canBeLaid(int places) {
        return places != 0 && Integer.bitCount(places) <= Game.MOST_PLACES;
    }

    private int countedSquares() {
        int squares = 0;
        for (int size = 1; size <= LARGEST_SIZE; size++) {
            if ((table.counting >> size & 1) != 0) {
                squares |= grid.ofSize[size];
            }
        }
        return squares;
    }

    private int leftSquares(int lying) {
        return grid.wholeAmong(lying) & countedSquares();
    }

    private int leftOf(int lying) {
        return Integer.bitCount(leftSquares(lying));
    }

    /**
     * In how many ways the coins leave none of the squares whole, by inclusion and exclusion of the
     * squares from q on; the rims in joined are all there.
     */
    private static long waysWithout(Grid grid, int squares, int q, int joined, int lying) {
        int next = q;
        while (next < grid.squares && (squares >> next & 1) == 0) {
            next++;
        }
        if (next >= grid.squares) {
            return 1L << lying - Integer.bitCount(joined);
        }
        return waysWithout(grid, squares, next + 1, joined, lying)
                - waysWithout(grid, squares, next + 1, joined | grid.rims[next], lying);
    }

    /** Of above by 2 to the power: the numerator (what 0), the denominator (1). */
    private static long inLowestTerms(long above, int power, int what) {
        long numerator = above;
        int twos = power;
        for (int i = 0; i < power && (numerator & 1) == 0; i++) {
            numerator >>= 1;
            twos--;
        }
        return what == 0 ? numerator : 1L << twos;
    }

    /** Which places and squares there are, by width and height alone. */
    private static final class Grid {
        int wide;
        int high;
        int matches;
        int squares;
        final int[] sizes = new int[MOST_SQUARES];
        final int[] rows = new int[MOST_SQUARES];
        final int[] columns = new int[MOST_SQUARES];
        final int[] rims = new int[MOST_SQUARES];
        final int[] ofSize = new int[LARGEST_SIZE + 1];
        private final int[] mirrored = new int[MOST_MATCHES];
        private final int[] flipped = new int[MOST_MATCHES];
        private final int[] swapped = new int[MOST_MATCHES];

        /** Wide is 1 to 4, high 1 to 3: the rows above have room for no more. */
        void form(int newWide, int newHigh) {
            wide = newWide;
            high = newHigh;
            matches = placesOf(wide, high);
            squares = 0;
            for (int size = 1; size <= LARGEST_SIZE; size++) {
                ofSize[size] = 0;
                addSquares(size);
            }
            for (int row = 0; row <= high; row++) {
                for (int column = 0; column <= wide; column++) {
                    turnPlaces(row, column);
                }
            }
        }

        static int placesOf(int wide, int high) {
            return wide * (high + 1) + high * (wide + 1);
        }

        int all() {
            return setOfAll(matches);
        }

        static int setOfAll(int matches) {
            return (1 << matches) - 1;
        }

        private int across(int row, int column) {
            return row * wide + column;
        }

        private int standing(int row, int column) {
            return wide * (high + 1) + row * (wide + 1) + column;
        }

        private void addSquares(int size) {
            for (int row = 0; row + size <= high; row++) {
                for (int column = 0; column + size <= wide && squares < MOST_SQUARES; column++) {
                    sizes[squares] = size;
                    rows[squares] = row;
                    columns[squares] = column;
                    rims[squares] = rimOf(size, row, column);
                    ofSize[size] |= 1 << squares;
                    squares++;
                }
            }
        }

        private int rimOf(int size, int row, int column) {
            int rim = 0;
            for (int i = 0; i < size; i++) {
                rim |= 1 << across(row, column + i);
                rim |= 1 << across(row + size, column + i);
                rim |= 1 << standing(row + i, column);
                rim |= 1 << standing(row + i, column + size);
            }
            return rim;
        }

        /** Where the two matches that begin in this corner come to, if they are within the grid. */
        private void turnPlaces(int row, int column) {
            boolean even = wide == high;
            if (column < wide) {
                int m = across(row, column);
                mirrored[m] = across(row, wide - 1 - column);
                flipped[m] = across(high - row, column);
                swapped[m] = even ? standing(column, row) : m;
            }
            if (row < high) {
                int m = standing(row, column);
                mirrored[m] = standing(row, wide - column);
                flipped[m] = standing(high - 1 - row, column);
                swapped[m] = even ? across(column, row) : m;
            }
        }

        private int moved(int set, int[] to) {
            int there = 0;
            for (int m = 0; m < matches; m++) {
                if ((set >> m & 1) != 0) {
                    there |= 1 << to[m];
                }
            }
            return there;
        }

        private boolean mirrorsInto(int a, int b) {
            int flip = moved(a, flipped);
            return a == b || flip == b || moved(a, mirrored) == b || moved(flip, mirrored) == b;
        }

        /** Rows swapped for columns and the two mirrors together make all quarter turns. */
        boolean turnsInto(int a, int b) {
            return mirrorsInto(a, b) || wide == high && mirrorsInto(moved(a, swapped), b);
        }

        /** As bits: those of the squares whose whole rim is in the set. */
        int wholeAmong(int set) {
            int whole = 0;
            for (int q = 0; q < squares; q++) {
                if ((set & rims[q]) == rims[q]) {
                    whole |= 1 << q;
                }
            }
            return whole;
        }

        /** As bits: those of some squares on whose rim a match is. */
        int touching(int someSquares, int m) {
            int touched = 0;
            for (int q = 0; q < squares; q++) {
                if ((someSquares >> q & rims[q] >> m & 1) != 0) {
                    touched |= 1 << q;
                }
            }
            return touched;
        }
    }

    /** What can be changed call by call, and is kept as an image. */
    private static final class Table {
        int lying;
        int counting;
        final int[] costs = new int[MOST_MATCHES];
        final int[] seen = new int[LARGEST_SIZE + 1];

        void renew(int all) {
            lying = all;
            counting = ALL_SIZES;
            Arrays.fill(costs, 1);
            Arrays.fill(seen, NONE);
        }

        void becomes(Table other) {
            lying = other.lying;
            counting = other.counting;
            System.arraycopy(other.costs, 0, costs, 0, MOST_MATCHES);
            System.arraycopy(other.seen, 0, seen, 0, LARGEST_SIZE + 1);
        }

        int sizesSeen() {
            int sizes = 0;
            for (int size = 1; size <= LARGEST_SIZE; size++) {
                if (seen[size] != NONE) {
                    sizes++;
                }
            }
            return sizes;
        }

        int costsLying() {
            int sum = 0;
            for (int m = 0; m < MOST_MATCHES; m++) {
                if ((lying >> m & 1) != 0) {
                    sum += costs[m];
                }
            }
            return sum;
        }
    }

    /** The bytes of a text, and the token that is read of them. */
    private static final class Tape {
        static final int ROOM = 320;
        static final int NOTHING = 0;
        static final int NAME = 1;
        static final int NUMBER = 2;
        static final int STOP = 3;
        static final int NO_TOKEN = 4;

        private final byte[] bytes = new byte[ROOM];
        int length;
        int kind;
        int start;
        int value;
        private int at;

        boolean append(long v) {
            if (length + 8 > ROOM) {
                return false;
            }
            for (int i = 0; i < 8; i++) {
                bytes[length + i] = (byte) (v >>> 56 - 8 * i);
            }
            length += 8;
            return true;
        }

        void rewind() {
            at = 0;
        }

        void step() {
            while (at < length && bytes[at] == ' ') {
                at++;
            }
            start = at;
            if (at >= length) {
                kind = NOTHING;
            } else if (bytes[at] == ';') {
                kind = STOP;
                at++;
            } else if (bytes[at] >= 'a' && bytes[at] <= 'z') {
                kind = NAME;
                pass('a', 'z');
            } else if (bytes[at] >= '0' && bytes[at] <= '9') {
                pass('0', '9');
                takeNumber();
            } else {
                kind = NO_TOKEN;
            }
        }

        private void pass(char low, char high) {
            while (at < length && bytes[at] >= low && bytes[at] <= high) {
                at++;
            }
        }

        private void takeNumber() {
            kind = at - start > 2 ? NO_TOKEN : NUMBER;
            value = 0;
            for (int i = start; i < at && kind == NUMBER; i++) {
                value = 10 * value + bytes[i] - '0';
            }
        }

        /** Whether the token is this name. */
        boolean says(String name) {
            if (kind != NAME || at - start != name.length()) {
                return false;
            }
            for (int i = start; i < at; i++) {
                if (bytes[i] != name.charAt(i - start)) {
                    return false;
                }
            }
            return true;
        }
    }

    /** Reads a text into a draft, so that one with a fault changes nothing. */
    private static final class Telling {
        private static final int UNREADABLE = 1;
        private static final int OUT_OF_PLACE = 2;
        private static final int OUT_OF_BOUNDS = 3;
        private static final int TOLD_ALREADY = 4;
        private static final int NO_SUCH_MATCH = 5;

        private final Tape tape;
        final Table draft = new Table();
        int wide;
        int high;
        int lines;
        int faultFound;
        int place;
        private boolean gridTold;
        private int goneTold;
        private int costsTold;
        private int sizesTold;
        private int seenTold;

        Telling(Tape tape) {
            this.tape = tape;
        }

        /** Whether it has no fault; what it tells is in the draft then. */
        boolean tell() {
            begin();
            for (int i = 0; i <= Tape.ROOM; i++) {
                tape.step();
                if (tape.kind == Tape.NOTHING) {
                    return finish();
                }
                if (!tellLine()) {
                    return false;
                }
                lines++;
            }
            return false;
        }

        private void begin() {
            tape.rewind();
            draft.renew(0);
            wide = 2;
            high = 2;
            lines = 0;
            faultFound = 0;
            place = 0;
            gridTold = false;
            goneTold = 0;
            costsTold = 0;
            sizesTold = 0;
            seenTold = 0;
        }

        private boolean finish() {
            int all = Grid.setOfAll(Grid.placesOf(wide, high));
            if (((goneTold | costsTold) & ~all) != 0) {
                return refuse(NO_SUCH_MATCH);
            }
            draft.lying = all & ~goneTold;
            draft.counting = sizesTold == 0 ? ALL_SIZES : sizesTold;
            return true;
        }

        /** The place is that of the token read last; at the end of the tape it is the length. */
        private boolean refuse(int why) {
            faultFound = why;
            place = tape.start;
            return false;
        }

        private boolean tellLine() {
            if (tape.says("grid")) {
                return tellGrid();
            }
            if (tape.says("gone")) {
                return tellGone();
            }
            if (tape.says("cost")) {
                return tellCost();
            }
            if (tape.says("size")) {
                return tellSizes();
            }
            if (tape.says("seen")) {
                return tellSeen();
            }
            return refuse(misfit());
        }

        /** The fault of a token that is not the one that can stand here. */
        private int misfit() {
            return tape.kind == Tape.NO_TOKEN ? UNREADABLE : OUT_OF_PLACE;
        }

        private boolean tellGrid() {
            if (gridTold) {
                return refuse(TOLD_ALREADY);
            }
            gridTold = true;
            if (!nextNumber(1, WIDEST, 0)) {
                return false;
            }
            wide = tape.value;
            if (!nextNumber(1, HIGHEST, 0)) {
                return false;
            }
            high = tape.value;
            return nextStop();
        }

        private boolean tellGone() {
            boolean more = nextNumber(0, MOST_MATCHES - 1, goneTold);
            for (int i = 0; i < Tape.ROOM && more; i++) {
                goneTold |= 1 << tape.value;
                more = moreNumbers(0, MOST_MATCHES - 1, goneTold);
            }
            return faultFound == 0;
        }

        private boolean tellSizes() {
            boolean more = nextNumber(1, LARGEST_SIZE, sizesTold);
            for (int i = 0; i < Tape.ROOM && more; i++) {
                sizesTold |= 1 << tape.value;
                more = moreNumbers(1, LARGEST_SIZE, sizesTold);
            }
            return faultFound == 0;
        }

        private boolean tellCost() {
            if (!nextNumber(0, MOST_MATCHES - 1, costsTold)) {
                return false;
            }
            int m = tape.value;
            costsTold |= 1 << m;
            if (!nextNumber(1, DEAREST, 0)) {
                return false;
            }
            draft.costs[m] = tape.value;
            return nextStop();
        }

        private boolean tellSeen() {
            if (!nextNumber(1, LARGEST_SIZE, seenTold)) {
                return false;
            }
            int size = tape.value;
            seenTold |= 1 << size;
            if (!nextNumber(0, MOST_SEEN, 0)) {
                return false;
            }
            draft.seen[size] = tape.value;
            return nextStop();
        }

        private boolean nextNumber(int low, int highest, int told) {
            tape.step();
            return isNumber(low, highest, told);
        }

        /** Whether a number comes where the stop may come too. */
        private boolean moreNumbers(int low, int highest, int told) {
            tape.step();
            return tape.kind != Tape.STOP && isNumber(low, highest, told);
        }

        /** Whether the token is a number within its bounds, and none of those told (as bits). */
        private boolean isNumber(int low, int highest, int told) {
            if (tape.kind != Tape.NUMBER) {
                return refuse(misfit());
            }
            if (tape.value < low || tape.value > highest) {
                return refuse(OUT_OF_BOUNDS);
            }
            return (told >> tape.value & 1) == 0 || refuse(TOLD_ALREADY);
        }

        private boolean nextStop() {
            tape.step();
            return tape.kind == Tape.STOP || refuse(misfit());
        }
    }

    /** Finds the sets of least cost that break all of some squares. */
    private static final class Breaker {
        private static final int LONGEST_RIM = 12;

        int best;
        int least;
        int ways;
        private int squares;
        private final int[] costs = new int[MOST_MATCHES];
        private final int[] rims = new int[MOST_SQUARES];
        private final int[] touched = new int[MOST_MATCHES];
        private final int[] upToCost = new int[DEAREST + 1];
        private int pick;

        void searchAll(Grid grid, int squaresToBreak, Table prices) {
            squares = grid.squares;
            Arrays.fill(upToCost, 0);
            System.arraycopy(grid.rims, 0, rims, 0, MOST_SQUARES);
            System.arraycopy(prices.costs, 0, costs, 0, MOST_MATCHES);
            for (int m = 0; m < grid.matches; m++) {
                touched[m] = grid.touching(squaresToBreak, m);
                for (int v = costs[m]; v <= DEAREST; v++) {
                    upToCost[v] |= 1 << m;
                }
            }
            best = DEAREST * MOST_MATCHES;
            least = 0;
            ways = 0;
            breakOn(this, 0, squaresToBreak, grid.all(), 0, 0);
        }

        /** Each set comes up once: a match tried for a square is no more free for the next tries. */
        private static void breakOn(Breaker by, int depth, int unbroken, int free, int taken, int spent) {
            if (unbroken == 0) {
                by.noteSet(taken, spent);
                return;
            }
            if (depth >= MOST_SQUARES || spent + by.costAtLeast(unbroken, free) > by.best) {
                return;
            }
            int open = by.pick;
            int stillFree = free;
            for (int i = 0; i < LONGEST_RIM && open != 0; i++) {
                int bit = open & -open;
                int m = Integer.bitCount(bit - 1);
                open ^= bit;
                stillFree ^= bit;
                int still = unbroken & ~by.touched[m];
                breakOn(by, depth + 1, still, stillFree, taken | bit, spent + by.costs[m]);
            }
        }

        private void noteSet(int taken, int spent) {
            if (spent > best) {
                return;
            }
            if (spent < best || ways == 0) {
                best = spent;
                least = taken;
                ways = 0;
            }
            least = Math.min(least, taken);
            ways++;
        }

        /**
         * Squares that share no free match must be paid one by one, each by its cheapest. The one
         * with the fewest free matches becomes the pick.
         */
        private int costAtLeast(int unbroken, int free) {
            int paid = 0;
            int sum = 0;
            int fewestOpen = MOST_MATCHES;
            for (int q = 0; q < squares; q++) {
                if ((unbroken >> q & 1) != 0) {
                    int open = rims[q] & free;
                    int n = Integer.bitCount(open);
                    if (n == 0) {
                        return DEAREST * MOST_MATCHES + 1;
                    }
                    if (n < fewestOpen) {
                        fewestOpen = n;
                        pick = open;
                    }
                    if ((open & paid) == 0) {
                        paid |= open;
                        sum += cheapestOf(open);
                    }
                }
            }
            return sum;
        }

        private int cheapestOf(int open) {
            int v = 1;
            while (v < DEAREST && (upToCost[v] & open) == 0) {
                v++;
            }
            return v;
        }
    }

    /** Goes through all sets of n matches, the least first. */
    private static final class Picker {
        int found;
        int least;
        int common;
        int numbersLeft;
        private int wants;
        private final int[] wantedOf = new int[LARGEST_SIZE];
        private final int[] wanted = new int[LARGEST_SIZE];
        private final int[] bits = new int[MOST_MATCHES];
        private final int[] touched = new int[MOST_MATCHES];
        private int counted;

        void wantNothing() {
            wants = 0;
        }

        /** Of these squares just so many shall be left. */
        void want(int squares, int number) {
            if (wants < LARGEST_SIZE) {
                wantedOf[wants] = squares;
                wanted[wants] = number;
                wants++;
            }
        }

        void pickAll(Grid grid, int lying, int n, int squaresCounted) {
            int places = 0;
            for (int m = 0; m < grid.matches; m++) {
                if ((lying >> m & 1) != 0) {
                    bits[places] = 1 << m;
                    touched[places] = grid.touching(-1, m);
                    places++;
                }
            }
            found = 0;
            least = 0;
            common = -1;
            numbersLeft = 0;
            counted = squaresCounted;
            pickBelow(this, places, n, 0, 0);
        }

        /** The highest match is chosen first: so the sets come in the order of their numbers. */
        private static void pickBelow(Picker by, int places, int n, int set, int broken) {
            if (n <= 0) {
                by.look(set, broken);
                return;
            }
            for (int i = n - 1; i < places; i++) {
                pickBelow(by, i, n - 1, set | by.bits[i], broken | by.touched[i]);
            }
        }

        private void look(int set, int broken) {
            numbersLeft |= 1 << Integer.bitCount(counted & ~broken);
            for (int i = 0; i < wants; i++) {
                if (Integer.bitCount(wantedOf[i] & ~broken) != wanted[i]) {
                    return;
                }
            }
            if (found == 0) {
                least = set;
            }
            found++;
            common &= set;
        }
    }

    /** Tries all moves of one or two matches. */
    private static final class Mover {
        private static final int MOST_PAIRS = 465;

        int found;
        int firstTaken;
        int firstLaid;
        private final int[] takenSets = new int[MOST_PAIRS];
        private final int[] laidSets = new int[MOST_PAIRS];
        private final int[] wholeThen = new int[MOST_PAIRS];

        void moveAll(Grid grid, int lying, int counted, int n, int k) {
            int takes = listSets(takenSets, lying, n);
            int lays = listSets(laidSets, grid.all() & ~lying, n);
            for (int j = 0; j < lays; j++) {
                wholeThen[j] = grid.wholeAmong(lying | laidSets[j]) & counted;
            }
            found = 0;
            for (int i = 0; i < takes; i++) {
                int unbroken = grid.wholeAmong(grid.all() & ~takenSets[i]);
                for (int j = 0; j < lays; j++) {
                    if (Integer.bitCount(wholeThen[j] & unbroken) == k) {
                        noteMove(takenSets[i], laidSets[j]);
                    }
                }
            }
        }

        private void noteMove(int taken, int laid) {
            if (found == 0) {
                firstTaken = taken;
                firstLaid = laid;
            }
            found++;
        }

        /** The sets of one or two of these matches, the least first: how many. */
        private static int listSets(int[] into, int matches, int n) {
            int sets = 0;
            for (int high = 0; high < MOST_MATCHES; high++) {
                int bit = 1 << high;
                if ((matches & bit) != 0 && n == 1 && sets < into.length) {
                    into[sets++] = bit;
                }
                for (int low = 0; low < high && n == 2 && (matches & bit) != 0; low++) {
                    if ((matches >> low & 1) != 0 && sets < into.length) {
                        into[sets++] = bit | 1 << low;
                    }
                }
            }
            return sets;
        }
    }

    /** Games of two over at most twelve places, solved from the last turn to the first. */
    private static final class Game {
        static final int MOST_PLACES = 12;

        int bestMatch;
        int bestWorth;
        private int places;
        private int squares;
        private final int[] matchAt = new int[MOST_PLACES];
        private final int[] needs = new int[MOST_SQUARES];
        private final byte[] worth = new byte[1 << MOST_PLACES];

        /** From here on a set of places is told by their numbers among those of the game. */
        private void setUp(Grid grid, int someSquares, int inGame) {
            places = 0;
            for (int m = 0; m < grid.matches && places < MOST_PLACES; m++) {
                if ((inGame >> m & 1) != 0) {
                    matchAt[places] = m;
                    places++;
                }
            }
            squares = 0;
            for (int q = 0; q < grid.squares; q++) {
                int need = renumbered(grid.rims[q]);
                if ((someSquares >> q & 1) != 0 && need != 0) {
                    needs[squares] = need;
                    squares++;
                }
            }
        }

        private int renumbered(int set) {
            int numbers = 0;
            for (int i = 0; i < places; i++) {
                numbers |= (set >> matchAt[i] & 1) << i;
            }
            return numbers;
        }

        /** The worth of a set of matches that lie: whether who is to take wins (1). */
        void playTaking(Grid grid, int someSquares, int lying) {
            setUp(grid, someSquares, lying);
            int all = (1 << places) - 1;
            for (int set = 0; set <= all; set++) {
                worth[set] = 0;
                if (anyWhole(set) && winningPlace(set) >= 0) {
                    worth[set] = 1;
                }
            }
            int first = winningPlace(all);
            bestMatch = first < 0 ? NONE : matchAt[first];
        }

        private boolean anyWhole(int set) {
            for (int q = 0; q < squares; q++) {
                if ((needs[q] & ~set) == 0) {
                    return true;
                }
            }
            return false;
        }

        /** Where nothing is left, who is to take has lost already: so one rule fits all turns. */
        private int winningPlace(int set) {
            for (int i = 0; i < places; i++) {
                int bit = 1 << i;
                if ((set & bit) != 0 && worth[set ^ bit] == 0) {
                    return i;
                }
            }
            return -1;
        }

        /** The worth of a set of places that are without: to who is to lay. */
        void playLaying(Grid grid, int someSquares, int without, boolean toTheEnd) {
            setUp(grid, someSquares, without);
            worth[0] = 0;
            int all = (1 << places) - 1;
            for (int set = 1; set <= all; set++) {
                findBest(set, toTheEnd);
                worth[set] = (byte) bestWorth;
            }
            bestMatch = matchAt[bestMatch];
        }

        private void findBest(int set, boolean toTheEnd) {
            int closing = closingPlaces(set);
            bestMatch = 0;
            bestWorth = -MOST_SQUARES - 1;
            for (int i = 0; i < places; i++) {
                int bit = 1 << i;
                if ((set & bit) != 0) {
                    int then = -worth[set ^ bit];
                    if ((closing & bit) != 0) {
                        then = toTheEnd ? madeBy(set, bit) - then : 1;
                    }
                    if (then > bestWorth) {
                        bestWorth = then;
                        bestMatch = i;
                    }
                }
            }
        }

        /** Those of the places that are without which alone keep a square from being whole. */
        private int closingPlaces(int set) {
            int closing = 0;
            for (int q = 0; q < squares; q++) {
                int need = needs[q] & set;
                if ((need & need - 1) == 0) {
                    closing |= need;
                }
            }
            return closing;
        }

        private int madeBy(int set, int bit) {
            int made = 0;
            for (int q = 0; q < squares; q++) {
                if ((needs[q] & set) == bit) {
                    made++;
                }
            }
            return made;
        }
    }

    /** A row of cells; the lane says how many of their bits are kept. */
    private static final class Sheet {
        static final int NULL = 1;
        static final int INDEX = 2;
        static final int CAST = 3;
        static final int SIZE = 4;

        final int lane;
        final int[] cells;

        /** The number of cells was looked at: 0 to 40. */
        Sheet(int lane, int n) {
            this.lane = lane;
            this.cells = new int[n];
        }

        boolean hasCell(int i) {
            return i >= 0 && i < cells.length;
        }

        void put(int i, int v) {
            if (!hasCell(i)) {
                return;
            }
            if (lane == 0) {
                cells[i] = (byte) v;
            } else if (lane == 1) {
                cells[i] = (short) v;
            } else {
                cells[i] = v;
            }
        }
    }
}
