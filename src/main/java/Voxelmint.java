import java.util.ArrayList;
import java.util.Arrays;

/**
 * A world of blocks, a sculptor's tree of states, and a mint that strikes the shapes as coins.
 *
 * <p>What each call promises is written in the document; see README.md.
 */
public final class Voxelmint {
    /** None. */
    public static final int NONE = -1;

    private static final int SIDE = 4;
    private static final int COLUMNS = SIDE * SIDE;
    private static final int LEVELS = 8;
    private static final int PLACES = COLUMNS * LEVELS;
    private static final int AIR = 0;
    private static final int LAST_KIND = 3;
    private static final int MOST_STATES = 61;
    private static final int MOST_DIES = 8;
    private static final int MOST_COINS = 60;
    private static final int LAST_STRIKE_NUMBER = 60;
    private static final int STRIKES_TO_WEAR = 2;
    private static final int BEST_GRADE = 100;
    private static final int GRADE_LOST_BY_DISTANCE = 5;

    private final ArrayList<State> history;
    private final ArrayList<Die> cutDies;
    private final ArrayList<Coin> madeCoins;
    private final PieceFinder pieceFinder;
    private State now;

    /** Creates a world of air, without dies and coins. */
    public Voxelmint() {
        history = new ArrayList<>();
        cutDies = new ArrayList<>();
        madeCoins = new ArrayList<>();
        pieceFinder = new PieceFinder();
        now = new State(0, null, new int[PLACES]);
        history.add(now);
    }

    // ---- blocks

    /** Sets a block, or air, and returns the number of the state that this makes. */
    public int set(int column, int level, int kind)
            throws IndexOutOfBoundsException, IllegalArgumentException, IllegalStateException {
        checkColumn(column);
        checkLevel(level);
        checkKindOrAir(kind);
        checkRoomForState();
        beginState();
        now.put(column, level, kind);
        return now.number;
    }

    /** Sets all levels of a column below a height to a kind, and all others to air. */
    public int raise(int column, int height, int kind)
            throws IndexOutOfBoundsException, IllegalArgumentException, IllegalStateException {
        checkColumn(column);
        checkHeight(height);
        checkKindOfBlock(kind);
        checkRoomForState();
        beginState();
        for (int level = 0; level < LEVELS; level++) {
            now.put(column, level, level < height ? kind : AIR);
        }
        return now.number;
    }

    /** Sets a level of all columns to a kind, or to air. */
    public int layer(int level, int kind)
            throws IndexOutOfBoundsException, IllegalArgumentException, IllegalStateException {
        checkLevel(level);
        checkKindOrAir(kind);
        checkRoomForState();
        beginState();
        for (int column = 0; column < COLUMNS; column++) {
            now.put(column, level, kind);
        }
        return now.number;
    }

    /** Returns the kind on a level of a column. */
    public int kind(int column, int level) throws IndexOutOfBoundsException {
        checkColumn(column);
        checkLevel(level);
        return now.kindAt(column, level);
    }

    /** Returns how many runs a column has. */
    public int runs(int column) throws IndexOutOfBoundsException {
        checkColumn(column);
        return now.countRuns(column);
    }

    /** Returns how many levels a run has. */
    public int runLength(int column, int run) throws IndexOutOfBoundsException {
        checkColumn(column);
        if (run < 0 || run >= now.countRuns(column)) {
            throw new IndexOutOfBoundsException("no such run");
        }
        return now.lengthOfRun(column, run);
    }

    /** Returns how many blocks there are, by runs. */
    public int blocks() {
        int count = 0;
        for (int column = 0; column < COLUMNS; column++) {
            count += now.countBlocksByRuns(column);
        }
        return count;
    }

    /** Returns how many blocks there are, level by level of each column. */
    public int blocksOneByOne() {
        int count = 0;
        for (int column = 0; column < COLUMNS; column++) {
            for (int level = 0; level < LEVELS; level++) {
                if (now.kindAt(column, level) != AIR) {
                    count++;
                }
            }
        }
        return count;
    }

    /** Returns how many pieces there are. */
    public int pieces() {
        return pieceFinder.countPieces(now);
    }

    /** Returns the height of a column. */
    public int height(int column) throws IndexOutOfBoundsException {
        checkColumn(column);
        return now.heightOf(column);
    }

    // ---- states

    /** Returns the number of the state of now. */
    public int state() {
        return now.number;
    }

    /** Returns how many states there are. */
    public int states() {
        return history.size();
    }

    /** Goes to a state, and returns the state before. */
    public int visit(int state) throws IndexOutOfBoundsException {
        checkState(state);
        int before = now.number;
        now = history.get(state);
        return before;
    }

    /** Goes to the parent of the state of now, and returns its number. */
    public int undo() throws IllegalStateException {
        State parent = now.parent;
        if (parent == null) {
            throw new IllegalStateException("the state 0 has no parent");
        }
        now = parent;
        return now.number;
    }

    /** Goes to a child of the state of now, and returns its number. */
    public int redo(int branch) throws IndexOutOfBoundsException {
        State child = findChild(branch);
        if (child == null) {
            throw new IndexOutOfBoundsException("no such branch");
        }
        now = child;
        return now.number;
    }

    /** Returns how many children the state of now has. */
    public int branches() {
        int count = 0;
        for (int i = 0; i < history.size(); i++) {
            if (history.get(i).parent == now) {
                count++;
            }
        }
        return count;
    }

    /** Returns how many columns are not alike in two states. */
    public int unlike(int state, int other) throws IndexOutOfBoundsException {
        checkState(state);
        checkState(other);
        State one = history.get(state);
        State two = history.get(other);
        int count = 0;
        for (int column = 0; column < COLUMNS; column++) {
            if (!one.hasColumnAlike(two, column)) {
                count++;
            }
        }
        return count;
    }

    // ---- dies and coins

    /** Cuts a die of the state of now, and returns its number. */
    public int cut() throws IllegalStateException {
        if (cutDies.size() >= MOST_DIES) {
            throw new IllegalStateException("no room for another die");
        }
        if (pieceFinder.countPieces(now) != 1) {
            throw new IllegalStateException("there is not just one piece");
        }
        cutDies.add(new Die(now.copyHeights()));
        return cutDies.size() - 1;
    }

    /** Strikes a coin, and returns its number. */
    public int strike(int die) throws IndexOutOfBoundsException, IllegalStateException {
        checkDie(die);
        checkRoomForCoin();
        return keepCoin(cutDies.get(die).makeCoin());
    }

    /** Forges a coin with the heights of another, and returns its number. */
    public int forge(int coin, int die, int number)
            throws IndexOutOfBoundsException, IllegalArgumentException, IllegalStateException {
        checkCoin(coin);
        checkDie(die);
        if (number < 1 || number > LAST_STRIKE_NUMBER) {
            throw new IllegalArgumentException("number is out of range");
        }
        checkRoomForCoin();
        Die told = cutDies.get(die);
        if (number > told.struck.size()) {
            throw new IllegalStateException("the die has made fewer strikes");
        }
        int[] genuine = told.struck.get(number - 1).heights;
        return keepCoin(new Coin(told, madeCoins.get(coin).heights, genuine));
    }

    /** Returns a height of a die as it is now. */
    public int dieHeight(int die, int column) throws IndexOutOfBoundsException {
        checkDie(die);
        checkColumn(column);
        return cutDies.get(die).heights[column];
    }

    /** Returns a height of a coin. */
    public int coinHeight(int coin, int column) throws IndexOutOfBoundsException {
        checkCoin(coin);
        checkColumn(column);
        return madeCoins.get(coin).heights[column];
    }

    /** Returns the grade of a coin. */
    public int grade(int coin) throws IndexOutOfBoundsException {
        checkCoin(coin);
        Coin graded = madeCoins.get(coin);
        int worn = distanceOfRows(graded.heights, graded.die.firstHeights);
        return Math.max(0, BEST_GRADE - GRADE_LOST_BY_DISTANCE * worn);
    }

    /** Tells whether a coin is found to be forged. */
    public boolean isForged(int coin) throws IndexOutOfBoundsException {
        checkCoin(coin);
        Coin suspect = madeCoins.get(coin);
        return distanceOfRows(suspect.heights, suspect.genuineHeights) != 0;
    }

    /** Returns the distance of the heights of two coins. */
    public int distance(int coin, int other) throws IndexOutOfBoundsException {
        checkCoin(coin);
        checkCoin(other);
        return distanceOfRows(madeCoins.get(coin).heights, madeCoins.get(other).heights);
    }

    // ---- inside

    private void beginState() {
        now = new State(history.size(), now, now.kinds.clone());
        history.add(now);
    }

    private State findChild(int branch) {
        int skipped = 0;
        for (int i = 0; i < history.size(); i++) {
            State state = history.get(i);
            if (state.parent == now) {
                if (skipped == branch) {
                    return state;
                }
                skipped++;
            }
        }
        return null;
    }

    private int keepCoin(Coin coin) {
        madeCoins.add(coin);
        return madeCoins.size() - 1;
    }

    private static int distanceOfRows(int[] row, int[] other) {
        int sum = 0;
        for (int column = 0; column < row.length && column < other.length; column++) {
            sum += Math.abs(row[column] - other[column]);
        }
        return sum;
    }

    private static boolean isColumn(int column) {
        return column >= 0 && column < COLUMNS;
    }

    private static boolean isLevel(int level) {
        return level >= 0 && level < LEVELS;
    }

    private static void checkColumn(int column) {
        if (!isColumn(column)) {
            throw new IndexOutOfBoundsException("no such column");
        }
    }

    private static void checkLevel(int level) {
        if (!isLevel(level)) {
            throw new IndexOutOfBoundsException("no such level");
        }
    }

    private static void checkHeight(int height) {
        if (height < 0 || height > LEVELS) {
            throw new IllegalArgumentException("height is out of range");
        }
    }

    private static void checkKindOrAir(int kind) {
        if (kind < AIR || kind > LAST_KIND) {
            throw new IllegalArgumentException("kind is out of range");
        }
    }

    private static void checkKindOfBlock(int kind) {
        if (kind <= AIR || kind > LAST_KIND) {
            throw new IllegalArgumentException("kind is out of range");
        }
    }

    private void checkState(int state) {
        if (state < 0 || state >= history.size()) {
            throw new IndexOutOfBoundsException("no such state");
        }
    }

    private void checkDie(int die) {
        if (die < 0 || die >= cutDies.size()) {
            throw new IndexOutOfBoundsException("no such die");
        }
    }

    private void checkCoin(int coin) {
        if (coin < 0 || coin >= madeCoins.size()) {
            throw new IndexOutOfBoundsException("no such coin");
        }
    }

    private void checkRoomForState() {
        if (history.size() >= MOST_STATES) {
            throw new IllegalStateException("no room for another state");
        }
    }

    private void checkRoomForCoin() {
        if (madeCoins.size() >= MOST_COINS) {
            throw new IllegalStateException("no room for another coin");
        }
    }

    /** A state: what stands in every place, and the state that it was changed from. */
    private static final class State {
        final int number;
        final State parent;
        final int[] kinds;

        /** The state 0 has no parent: null. The row of kinds is the state's own from here on. */
        State(int number, State parent, int[] kinds) {
            this.number = number;
            this.parent = parent;
            this.kinds = kinds;
        }

        /** Outside of the world is air. */
        int kindAt(int column, int level) {
            if (!isColumn(column) || !isLevel(level)) {
                return AIR;
            }
            return kinds[column * LEVELS + level];
        }

        void put(int column, int level, int kind) {
            if (isColumn(column) && isLevel(level)) {
                kinds[column * LEVELS + level] = kind;
            }
        }

        private boolean endsRun(int column, int level) {
            return level == LEVELS - 1 || kindAt(column, level) != kindAt(column, level + 1);
        }

        int countRuns(int column) {
            int count = 0;
            for (int level = 0; level < LEVELS; level++) {
                if (endsRun(column, level)) {
                    count++;
                }
            }
            return count;
        }

        int lengthOfRun(int column, int run) {
            int passed = 0;
            int length = 0;
            for (int level = 0; level < LEVELS; level++) {
                if (passed == run) {
                    length++;
                }
                if (endsRun(column, level)) {
                    passed++;
                }
            }
            return length;
        }

        int countBlocksByRuns(int column) {
            int count = 0;
            int length = 0;
            for (int level = 0; level < LEVELS; level++) {
                length++;
                if (endsRun(column, level)) {
                    if (kindAt(column, level) != AIR) {
                        count += length;
                    }
                    length = 0;
                }
            }
            return count;
        }

        int heightOf(int column) {
            for (int level = LEVELS - 1; level >= 0; level--) {
                if (kindAt(column, level) != AIR) {
                    return level + 1;
                }
            }
            return 0;
        }

        int[] copyHeights() {
            int[] heights = new int[COLUMNS];
            for (int column = 0; column < COLUMNS; column++) {
                heights[column] = heightOf(column);
            }
            return heights;
        }

        boolean hasColumnAlike(State other, int column) {
            for (int level = 0; level < LEVELS; level++) {
                if (kindAt(column, level) != other.kindAt(column, level)) {
                    return false;
                }
            }
            return true;
        }
    }

    /** Counts pieces, in rows that are made once, since what a call makes is counted for the whole run. */
    private static final class PieceFinder {
        private static final int UNREACHED = 0;
        private static final int REACHED = 1;

        private final int[] marks;
        private final int[] queue;
        private int queued;

        PieceFinder() {
            marks = new int[PLACES];
            queue = new int[PLACES];
        }

        int countPieces(State state) {
            Arrays.fill(marks, UNREACHED);
            queued = 0;
            int count = 0;
            for (int column = 0; column < COLUMNS; column++) {
                for (int level = 0; level < LEVELS; level++) {
                    int before = queued;
                    reach(state, column, level);
                    if (queued > before) {
                        count++;
                        reachRestOfPiece(state, before);
                    }
                }
            }
            return count;
        }

        /** A place is queued once at the most, so the queue never holds more than all places. */
        private void reachRestOfPiece(State state, int first) {
            for (int i = first; i < queued && i < PLACES; i++) {
                reachTouching(state, queue[i] / LEVELS, queue[i] % LEVELS);
            }
        }

        private void reachTouching(State state, int column, int level) {
            reach(state, column, level - 1);
            reach(state, column, level + 1);
            reach(state, column - SIDE, level);
            reach(state, column + SIDE, level);
            if (column % SIDE > 0) {
                reach(state, column - 1, level);
            }
            if (column % SIDE < SIDE - 1) {
                reach(state, column + 1, level);
            }
        }

        private void reach(State state, int column, int level) {
            if (!isColumn(column) || !isLevel(level) || state.kindAt(column, level) == AIR) {
                return;
            }
            int place = column * LEVELS + level;
            if (marks[place] == UNREACHED && queued < PLACES) {
                marks[place] = REACHED;
                queue[queued] = place;
                queued++;
            }
        }
    }

    /** A die: its heights as they were first and as they are now, and the coins of its strikes. */
    private static final class Die {
        final int[] firstHeights;
        final int[] heights;
        final ArrayList<Coin> struck;

        /** The row of heights is the die's own from here on. */
        Die(int[] firstHeights) {
            this.firstHeights = firstHeights;
            heights = firstHeights.clone();
            struck = new ArrayList<>();
        }

        Coin makeCoin() {
            int[] row = heights.clone();
            Coin coin = new Coin(this, row, row);
            struck.add(coin);
            if (struck.size() % STRIKES_TO_WEAR == 0) {
                wear();
            }
            return coin;
        }

        private void wear() {
            int highest = 0;
            for (int column = 1; column < COLUMNS; column++) {
                if (heights[column] > heights[highest]) {
                    highest = column;
                }
            }
            if (heights[highest] > 0) {
                heights[highest]--;
            }
        }
    }

    /**
     * A coin, the die that is told for it, and the heights that this die had for the strike of its number.
     * Rows of coins never change, so coins share them.
     */
    private static final class Coin {
        final Die die;
        final int[] heights;
        final int[] genuineHeights;

        Coin(Die die, int[] heights, int[] genuineHeights) {
            this.die = die;
            this.heights = heights;
            this.genuineHeights = genuineHeights;
        }
    }
}
