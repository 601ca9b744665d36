import java.util.Arrays;

/**
 * Two banks: NORTH joins the north bank to the south one, WEST the west bank to the east one.
 *
 * <p>A set of fields is a long: field f is its bit f, so that a lowest bit is a lowest field.
 */
public final class TwoBanks {
    public static final int NONE = -1;

    private static final int NORTH = 1;
    private static final int WEST = 2;
    private static final int EMPTY = 0;
    private static final int SIDE_AT_FIRST = 3;
    private static final int LONGEST_SIDE = 6;
    private static final int MOST_FIELDS = 36;
    private static final int MOST_EMPTY = 10;
    // Every field can be laid in once, and one swap can come between.
    private static final int MOST_DEEDS = MOST_FIELDS + 1;
    // A deed is the number of the field laid in, or this one.
    private static final int SWAP_DEED = -2;
    // Each of the empty fields is empty, the maker's or the other's: 3 to the 10th; twice, for who is to lay.
    private static final int MOST_STATES = 2 * 59049;

    private final Grid grid;
    private final Deeds deeds;
    private final Path path;
    // One for the banks and one for links, so that questions of both kinds in turn forget nothing.
    private final Fight bankFight;
    private final Fight linkFight;
    private long north;
    private long west;
    private int toLay;
    private boolean untouched;

    public TwoBanks() {
        grid = new Grid();
        deeds = new Deeds();
        path = new Path();
        bankFight = new Fight();
        linkFight = new Fight();
        makeEmpty(SIDE_AT_FIRST, SIDE_AT_FIRST);
    }

    public boolean board(int rows, int columns) {
        if (!isSide(rows) || !isSide(columns)) {
            return false;
        }
        makeEmpty(rows, columns);
        return true;
    }

    public boolean set(int f, int colour, int who) {
        boolean known = colour == EMPTY || isColour(colour);
        if (!grid.has(f) || !known || !isColour(who)) {
            return false;
        }
        put(f, colour);
        toLay = who;
        untouched = false;
        deeds.forget();
        return true;
    }

    public int lay(int f) {
        if (!grid.has(f) || stoneAt(f) != EMPTY || whoJoined() != 0 || !deeds.add(f)) {
            return NONE;
        }
        layStone(f);
        return whoJoined() == 0 ? 1 : 2;
    }

    public boolean swap() {
        boolean open = untouched && grid.rows() == grid.columns();
        if (!open || deeds.done() != 1 || whoJoined() != 0 || !deeds.add(SWAP_DEED)) {
            return false;
        }
        takeOver();
        return true;
    }

    public boolean undo() {
        int deed = deeds.back();
        if (deed == NONE) {
            return false;
        }
        if (deed == SWAP_DEED) {
            giveBack();
        } else {
            put(deed, EMPTY);
            toLay = other(toLay);
        }
        return true;
    }

    public boolean redo() {
        int deed = deeds.forth();
        if (deed == NONE) {
            return false;
        }
        if (deed == SWAP_DEED) {
            takeOver();
        } else {
            layStone(deed);
        }
        return true;
    }

    public void change() {
        long newNorth = grid.turned(west);
        long newWest = grid.turned(north);
        grid.shape(grid.columns(), grid.rows());
        north = newNorth;
        west = newWest;
        toLay = other(toLay);
        untouched = false;
        deeds.forget();
    }

    public int at(int f) {
        return grid.has(f) ? stoneAt(f) : NONE;
    }

    public int group(int f) {
        long stones = groupAt(f);
        return stones == 0L ? NONE : lowest(stones);
    }

    public int look(int f, int what) {
        long stones = groupAt(f);
        if (stones == 0L) {
            return NONE;
        }
        switch (what) {
            case 0:
                return Long.bitCount(stones);
            case 1:
                return grid.banksOf(stones);
            case 2:
                return Long.bitCount(grid.beside(stones) & empties());
            default:
                return NONE;
        }
    }

    public int joined() {
        return whoJoined();
    }

    public int way(int i) {
        findPath();
        return path.field(i);
    }

    public int winner(int who) {
        if (!isColour(who) || tooManyEmpty()) {
            return NONE;
        }
        askBanks();
        return bankFight.makerWins(who == NORTH) ? NORTH : WEST;
    }

    public int first(int who, int i) {
        if (!isColour(who) || tooManyEmpty()) {
            return NONE;
        }
        askBanks();
        return bankFight.winningField(who == NORTH, i);
    }

    public int fillings() {
        if (tooManyEmpty()) {
            return NONE;
        }
        askBanks();
        return bankFight.reachedFillings();
    }

    public int dead(int f) {
        if (!grid.has(f) || stoneAt(f) != EMPTY || tooManyEmpty()) {
            return NONE;
        }
        askBanks();
        return (bankFight.deadFields() & bit(f)) != 0L ? 1 : 0;
    }

    public int link(int colour, int a, int b) {
        if (!canLink(colour, a, b)) {
            return NONE;
        }
        askLink(colour, a, b);
        return linkFight.strength();
    }

    public int half(int colour, int a, int b, int i) {
        if (!canLink(colour, a, b)) {
            return NONE;
        }
        askLink(colour, a, b);
        return linkFight.strength() == 1 ? linkFight.winningField(true, i) : NONE;
    }

    public int count(int what) {
        switch (what) {
            case 0:
                return grid.rows();
            case 1:
                return grid.columns();
            case 2:
                return Long.bitCount(empties());
            case 3:
                return toLay;
            case 4:
                return deeds.done();
            case 5:
                return deeds.undone();
            case 6:
                return grid.groupsOf(north);
            case 7:
                return grid.groupsOf(west);
            case 8:
                return howManyDead();
            case 9:
                findPath();
                return path.length();
            default:
                return NONE;
        }
    }

    private static boolean isSide(int n) {
        return n >= 1 && n <= LONGEST_SIDE;
    }

    private static boolean isColour(int n) {
        return n == NORTH || n == WEST;
    }

    private static int other(int colour) {
        return colour == NORTH ? WEST : NORTH;
    }

    private static long bit(int f) {
        return 1L << f;
    }

    private static int lowest(long fields) {
        return Long.bitCount((fields & -fields) - 1L);
    }

    private void makeEmpty(int rows, int columns) {
        grid.shape(rows, columns);
        north = 0L;
        west = 0L;
        toLay = NORTH;
        untouched = true;
        deeds.forget();
    }

    private int stoneAt(int f) {
        if ((north & bit(f)) != 0L) {
            return NORTH;
        }
        return (west & bit(f)) != 0L ? WEST : EMPTY;
    }

    private void put(int f, int colour) {
        north &= ~bit(f);
        west &= ~bit(f);
        if (colour == NORTH) {
            north |= bit(f);
        } else if (colour == WEST) {
            west |= bit(f);
        }
    }

    private long stonesOf(int colour) {
        return colour == NORTH ? north : west;
    }

    private long empties() {
        return grid.all() & ~(north | west);
    }

    private boolean tooManyEmpty() {
        return Long.bitCount(empties()) > MOST_EMPTY;
    }

    private void layStone(int f) {
        put(f, toLay);
        toLay = other(toLay);
    }

    private void takeOver() {
        west = grid.turned(north);
        north = 0L;
        toLay = NORTH;
    }

    // The swap stands right behind the first stone: undone, that stone is the only one again.
    private void giveBack() {
        north = grid.turned(west);
        west = 0L;
        toLay = WEST;
    }

    private long groupAt(int f) {
        if (!grid.has(f)) {
            return 0L;
        }
        int colour = stoneAt(f);
        return colour == EMPTY ? 0L : grid.spread(bit(f), stonesOf(colour));
    }

    private int whoJoined() {
        if (grid.joins(north, grid.northBank(), grid.southBank())) {
            return NORTH;
        }
        return grid.joins(west, grid.westBank(), grid.eastBank()) ? WEST : 0;
    }

    private void findPath() {
        int who = whoJoined();
        if (who == NORTH) {
            path.find(grid, north, grid.northBank(), grid.southBank());
        } else if (who == WEST) {
            path.find(grid, west, grid.westBank(), grid.eastBank());
        } else {
            path.forget();
        }
    }

    private void askBanks() {
        bankFight.ask(grid, north, west, grid.northBank(), grid.southBank());
    }

    private boolean canLink(int colour, int a, int b) {
        if (!isColour(colour) || !grid.has(a) || !grid.has(b) || a == b) {
            return false;
        }
        long strange = stonesOf(other(colour));
        return (strange & (bit(a) | bit(b))) == 0L && !tooManyEmpty();
    }

    private void askLink(int colour, int a, int b) {
        linkFight.ask(grid, stonesOf(colour), stonesOf(other(colour)), bit(a), bit(b));
    }

    private int howManyDead() {
        if (tooManyEmpty()) {
            return NONE;
        }
        askBanks();
        return Long.bitCount(bankFight.deadFields());
    }

    /** The shape of the board: which fields there are, which are neighbours, which lie at the banks. */
    private static final class Grid {
        private int rows;
        private int columns;
        private long all;
        private long northBank;
        private long southBank;
        private long westBank;
        private long eastBank;

        void shape(int newRows, int newColumns) {
            rows = newRows;
            columns = newColumns;
            all = bit(rows * columns) - 1L;
            northBank = bit(columns) - 1L;
            southBank = northBank << (columns * (rows - 1));
            westBank = 0L;
            for (int r = 0; r < rows; r++) {
                westBank |= bit(columns * r);
            }
            eastBank = westBank << (columns - 1);
        }

        int rows() {
            return rows;
        }

        int columns() {
            return columns;
        }

        long all() {
            return all;
        }

        long northBank() {
            return northBank;
        }

        long southBank() {
            return southBank;
        }

        long westBank() {
            return westBank;
        }

        long eastBank() {
            return eastBank;
        }

        boolean has(int f) {
            return f >= 0 && f < rows * columns;
        }

        /** The neighbours of these fields (some of the fields may be among them). */
        long beside(long fields) {
            long notEast = fields & ~eastBank;
            long notWest = fields & ~westBank;
            long along = notEast << 1 | notWest >>> 1;
            long across = fields << columns | fields >>> columns;
            long slanting = notEast >>> (columns - 1) | notWest << (columns - 1);
            return (along | across | slanting) & all;
        }

        /** All fields of within that hang together, inside it, with one of the seeds. */
        long spread(long seeds, long within) {
            long area = seeds & within;
            for (int step = 0; step < MOST_FIELDS; step++) {
                long wider = (area | beside(area)) & within;
                if (wider == area) {
                    return area;
                }
                area = wider;
            }
            return area;
        }

        boolean joins(long stones, long from, long to) {
            return (spread(from, stones) & to) != 0L;
        }

        int groupsOf(long stones) {
            int groups = 0;
            long rest = stones;
            for (int i = 0; i < MOST_FIELDS && rest != 0L; i++) {
                rest &= ~spread(rest & -rest, stones);
                groups++;
            }
            return groups;
        }

        int banksOf(long fields) {
            int banks = (fields & northBank) != 0L ? 1 : 0;
            banks |= (fields & southBank) != 0L ? 2 : 0;
            banks |= (fields & westBank) != 0L ? 4 : 0;
            banks |= (fields & eastBank) != 0L ? 8 : 0;
            return banks;
        }

        /** The same fields when row r, column c has gone to row c, column r, of the board changed over. */
        long turned(long fields) {
            long out = 0L;
            for (int r = 0; r < rows; r++) {
                for (int c = 0; c < columns; c++) {
                    if ((fields & bit(columns * r + c)) != 0L) {
                        out |= bit(rows * c + r);
                    }
                }
            }
            return out;
        }
    }

    /** What was done, in order, and behind it what was undone and can be done again. */
    private static final class Deeds {
        private final int[] row = new int[MOST_DEEDS];
        private int done;
        private int known;

        void forget() {
            done = 0;
            known = 0;
        }

        int done() {
            return done;
        }

        int undone() {
            return known - done;
        }

        boolean add(int deed) {
            if (done < 0 || done >= row.length) {
                return false;
            }
            row[done] = deed;
            done++;
            known = done;
            return true;
        }

        int back() {
            int last = done - 1;
            if (last < 0 || last >= row.length) {
                return NONE;
            }
            done = last;
            return row[last];
        }

        int forth() {
            int next = done;
            if (next < 0 || next >= known || next >= row.length) {
                return NONE;
            }
            done = next + 1;
            return row[next];
        }
    }

    /** A shortest way from one bank to the other, of like ones the least. */
    private static final class Path {
        // Layer k: the stones from which k more steps are the fewest that reach the far bank.
        private final long[] layers = new long[MOST_FIELDS];
        private final int[] fields = new int[MOST_FIELDS];
        private int length;

        void forget() {
            length = 0;
        }

        int length() {
            return length;
        }

        int field(int i) {
            return i >= 0 && i < length && i < fields.length ? fields[i] : NONE;
        }

        void find(Grid grid, long stones, long start, long end) {
            forget();
            long layer = stones & end;
            long seen = layer;
            for (int k = 0; k < layers.length && layer != 0L; k++) {
                layers[k] = layer;
                if ((layer & start) != 0L) {
                    trace(grid, start, k);
                    return;
                }
                layer = grid.beside(layer) & stones & ~seen;
                seen |= layer;
            }
        }

        private void trace(Grid grid, long start, int farthest) {
            long open = start;
            for (int k = farthest; k >= 0 && k < layers.length; k--) {
                int f = lowest(layers[k] & open);
                if (length >= 0 && length < fields.length) {
                    fields[length] = f;
                    length++;
                }
                open = grid.beside(bit(f));
            }
        }
    }

    /** A row of marks, all of them off at first. */
    private static final class Marks {
        private final long[] words;

        Marks(int size) {
            words = new long[Math.max(0, size + 63 >> 6)];
        }

        void forget() {
            Arrays.fill(words, 0L);
        }

        boolean has(int i) {
            int word = i >> 6;
            return word >= 0 && word < words.length && (words[word] & bit(i & 63)) != 0L;
        }

        void mark(int i) {
            int word = i >> 6;
            if (word >= 0 && word < words.length) {
                words[word] |= bit(i & 63);
            }
        }
    }

    /**
     * A fight on the empty fields: the maker wins if on the full board stones of its own join a field of
     * one set to a field of another (two banks, or two fields). The empty fields are counted by number, from 0;
     * a set of them is an int with a bit for each.
     */
    private static final class Fight {
        // By the empty fields that the maker has when all others are not its own: whether it joins.
        private final Marks reached = new Marks(1 << MOST_EMPTY);
        private final Marks won = new Marks(MOST_STATES);
        private final Marks lost = new Marks(MOST_STATES);
        // What was asked last: the same question again needs no new work.
        private int rows;
        private int columns;
        private long own;
        private long others;
        private long from;
        private long to;

        private long spots;
        private int spotCount;
        private int full;
        private int reachedCount;
        private boolean deadKnown;
        private long deadSpots;

        void ask(Grid grid, long newOwn, long newOthers, long newFrom, long newTo) {
            boolean sameShape = rows == grid.rows() && columns == grid.columns();
            boolean sameStones = own == newOwn && others == newOthers;
            if (sameShape && sameStones && from == newFrom && to == newTo) {
                return;
            }
            rows = grid.rows();
            columns = grid.columns();
            own = newOwn;
            others = newOthers;
            from = newFrom;
            to = newTo;
            prepare(grid);
        }

        private void prepare(Grid grid) {
            spots = grid.all() & ~(own | others);
            spotCount = Math.min(MOST_EMPTY, Long.bitCount(spots));
            full = (1 << spotCount) - 1;
            reachedCount = 0;
            deadKnown = false;
            reached.forget();
            won.forget();
            lost.forget();
            long laid = 0L;
            for (int mine = 0; mine <= full; mine++) {
                if ((grid.spread(from, own | laid) & to) != 0L) {
                    reached.mark(mine);
                    reachedCount++;
                }
                // The next subset of the spots, in the order of the numbers that mine counts through.
                laid = laid - spots & spots;
            }
        }

        int reachedFillings() {
            return reachedCount;
        }

        boolean makerWins(boolean makerLays) {
            return holds(this, 0, 0, 0, makerLays, spotCount);
        }

        /** 2: the maker wins even if the other lays first; 1: if it lays first itself; 0: not even then. */
        int strength() {
            if (makerWins(false)) {
                return 2;
            }
            return makerWins(true) ? 1 : 0;
        }

        /** The i-th field by which who is to lay (the maker or not) wins, laying there. */
        int winningField(boolean makerLays, int i) {
            int left = i;
            int k = 0;
            int weight = 1;
            for (int f = 0; f < MOST_FIELDS && left >= 0 && k < spotCount; f++) {
                if ((spots & bit(f)) != 0L) {
                    if (winsAt(makerLays, 1 << k, weight)) {
                        if (left == 0) {
                            return f;
                        }
                        left--;
                    }
                    k++;
                    weight *= 3;
                }
            }
            return NONE;
        }

        private boolean winsAt(boolean makerLays, int spot, int weight) {
            if (makerLays) {
                return holds(this, spot, 0, weight, false, spotCount - 1);
            }
            return !holds(this, 0, spot, 2 * weight, true, spotCount - 1);
        }

        /**
         * Whether the maker wins from here. The key has a digit of base 3 for each spot: 0 empty, 1 the maker's,
         * 2 the other's; left, how many are empty, goes down with each call.
         */
        private static boolean holds(Fight x, int mine, int theirs, int key, boolean makerLays, int left) {
            // More stones never harm: it has won if even none of the rest is needed, and lost if all don't help.
            if (x.reached.has(mine)) {
                return true;
            }
            if (left <= 0 || !x.reached.has(x.full & ~theirs)) {
                return false;
            }
            int state = 2 * key + (makerLays ? 1 : 0);
            if (x.won.has(state) || x.lost.has(state)) {
                return x.won.has(state);
            }
            boolean wins = !makerLays;
            int weight = 1;
            for (int k = 0; k < x.spotCount && wins != makerLays; k++) {
                int spot = 1 << k;
                if (((mine | theirs) & spot) == 0) {
                    wins = makerLays
                            ? holds(x, mine | spot, theirs, key + weight, false, left - 1)
                            : holds(x, mine, theirs | spot, key + 2 * weight, true, left - 1);
                }
                weight *= 3;
            }
            if (wins) {
                x.won.mark(state);
            } else {
                x.lost.mark(state);
            }
            return wins;
        }

        long deadFields() {
            if (!deadKnown) {
                findDead();
            }
            return deadSpots;
        }

        private void findDead() {
            deadSpots = 0L;
            deadKnown = true;
            int k = 0;
            for (int f = 0; f < MOST_FIELDS && k < spotCount; f++) {
                if ((spots & bit(f)) != 0L) {
                    if (neverMatters(1 << k)) {
                        deadSpots |= bit(f);
                    }
                    k++;
                }
            }
        }

        private boolean neverMatters(int spot) {
            for (int mine = 0; mine <= full; mine++) {
                if ((mine & spot) == 0 && reached.has(mine) != reached.has(mine | spot)) {
                    return false;
                }
            }
            return true;
        }
    }
}
