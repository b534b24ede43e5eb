import java.util.ArrayDeque;
import java.util.ArrayList;
import java.util.Arrays;
import java.util.Collections;
import java.util.List;

/**
 * The document told a second time, by other means than the program's: worlds as tables that are copied whole,
 * and the heights of a die for a strike by wearing its first heights again. Answers are texts.
 */
final class Model {
    private static final String INDEX = Check.INDEX;
    private static final String ARGUMENT = Check.ARGUMENT;
    private static final String STATE = Check.STATE;

    private final List<int[][]> worlds = new ArrayList<>();
    private final List<Integer> parents = new ArrayList<>();
    private final List<List<Integer>> dies = new ArrayList<>();
    private final List<Integer> strikes = new ArrayList<>();
    private final List<List<Integer>> coins = new ArrayList<>();
    private final List<int[]> told = new ArrayList<>();
    private int now = 0;

    Model() {
        worlds.add(new int[16][8]);
        parents.add(-1);
    }

    int states() {
        return worlds.size();
    }

    int branches() {
        return children().size();
    }

    int dies() {
        return dies.size();
    }

    int coins() {
        return coins.size();
    }

    /** Answers a call as the document asks, or with the name of the exception that is due. */
    String call(String name, int a, int b, int c) {
        switch (name) {
            case "set":
                return !in(a, 16) || !in(b, 8) ? INDEX : !in(c, 4) ? ARGUMENT : change(a, a, b, b, c, false);
            case "raise":
                return !in(a, 16) ? INDEX : !in(b, 9) || !in(c - 1, 3) ? ARGUMENT : change(a, a, 0, b - 1, c, true);
            case "layer":
                return !in(a, 8) ? INDEX : !in(b, 4) ? ARGUMENT : change(0, 15, a, a, b, false);
            case "kind":
                return !in(a, 16) || !in(b, 8) ? INDEX : told(world()[a][b]);
            case "runs":
                return !in(a, 16) ? INDEX : told(runs(a).size());
            case "runLength":
                return !in(a, 16) || !in(b, runs(a).size()) ? INDEX : told(runs(a).get(b));
            case "blocks":
            case "blocksOneByOne":
                return told(blocks());
            case "pieces":
                return told(pieces());
            case "height":
                return !in(a, 16) ? INDEX : told(heights().get(a));
            case "state":
                return told(now);
            case "states":
                return told(worlds.size());
            default:
                return callOfStatesOrMint(name, a, b, c);
        }
    }

    private String callOfStatesOrMint(String name, int a, int b, int c) {
        switch (name) {
            case "visit":
                return !in(a, worlds.size()) ? INDEX : visit(a, now);
            case "undo":
                return now == 0 ? STATE : visit(parents.get(now), parents.get(now));
            case "redo":
                return !in(a, children().size()) ? INDEX : visit(children().get(a), children().get(a));
            case "branches":
                return told(children().size());
            case "unlike":
                return !in(a, worlds.size()) || !in(b, worlds.size()) ? INDEX : told(unlike(a, b));
            case "cut":
                return pieces() != 1 || dies.size() == 8 ? STATE : cut();
            case "strike":
                return !in(a, dies.size()) ? INDEX : coins.size() == 60 ? STATE : strike(a);
            case "forge":
                return forge(a, b, c);
            case "dieHeight":
                return !in(a, dies.size()) || !in(b, 16) ? INDEX : told(dieAt(a, strikes.get(a) + 1).get(b));
            case "coinHeight":
                return !in(a, coins.size()) || !in(b, 16) ? INDEX : told(coins.get(a).get(b));
            case "grade":
                return !in(a, coins.size()) ? INDEX : told(grade(a));
            case "isForged":
                return !in(a, coins.size()) ? INDEX : told(isForged(a) ? 1 : 0);
            case "distance":
                boolean isThere = in(a, coins.size()) && in(b, coins.size());
                return isThere ? told(distance(coins.get(a), coins.get(b))) : INDEX;
            default:
                throw new AssertionError(name);
        }
    }

    private static boolean in(int number, int count) {
        return number >= 0 && number < count;
    }

    private static String told(int answer) {
        return Integer.toString(answer);
    }

    private int[][] world() {
        return worlds.get(now);
    }

    private String change(int firstColumn, int lastColumn, int firstLevel, int lastLevel, int kind, boolean clears) {
        if (worlds.size() == 61) {
            return STATE;
        }
        int[][] next = new int[16][8];
        for (int column = 0; column < 16; column++) {
            for (int level = 0; level < 8; level++) {
                boolean ofColumn = column >= firstColumn && column <= lastColumn;
                boolean ofLevel = level >= firstLevel && level <= lastLevel;
                int other = ofColumn && clears ? 0 : world()[column][level];
                next[column][level] = ofColumn && ofLevel ? kind : other;
            }
        }
        parents.add(now);
        worlds.add(next);
        now = worlds.size() - 1;
        return told(now);
    }

    private List<Integer> runs(int column) {
        List<Integer> lengths = new ArrayList<>();
        int last = -1;
        for (int kind : world()[column]) {
            if (kind == last) {
                lengths.set(lengths.size() - 1, lengths.get(lengths.size() - 1) + 1);
            } else {
                lengths.add(1);
            }
            last = kind;
        }
        return lengths;
    }

    private int blocks() {
        int count = 0;
        for (int[] column : world()) {
            for (int kind : column) {
                count += kind > 0 ? 1 : 0;
            }
        }
        return count;
    }

    private int pieces() {
        boolean[][][] left = new boolean[4][4][8];
        for (int column = 0; column < 16; column++) {
            for (int level = 0; level < 8; level++) {
                left[column % 4][column / 4][level] = world()[column][level] > 0;
            }
        }
        int count = 0;
        for (int x = 0; x < 4; x++) {
            for (int y = 0; y < 4; y++) {
                for (int level = 0; level < 8; level++) {
                    count += takeAway(left, x, y, level) ? 1 : 0;
                }
            }
        }
        return count;
    }

    private static boolean takeAway(boolean[][][] left, int x, int y, int level) {
        ArrayDeque<int[]> waiting = new ArrayDeque<>();
        waiting.push(new int[] {x, y, level});
        boolean took = false;
        while (!waiting.isEmpty()) {
            int[] at = waiting.pop();
            if (in(at[0], 4) && in(at[1], 4) && in(at[2], 8) && left[at[0]][at[1]][at[2]]) {
                left[at[0]][at[1]][at[2]] = false;
                took = true;
                for (int axis = 0; axis < 3; axis++) {
                    for (int step = -1; step <= 1; step += 2) {
                        int[] next = at.clone();
                        next[axis] += step;
                        waiting.push(next);
                    }
                }
            }
        }
        return took;
    }

    private List<Integer> heights() {
        List<Integer> heights = new ArrayList<>();
        for (int[] column : world()) {
            int height = 0;
            for (int level = 0; level < 8; level++) {
                height = column[level] > 0 ? level + 1 : height;
            }
            heights.add(height);
        }
        return heights;
    }

    private String visit(int state, int answer) {
        now = state;
        return told(answer);
    }

    private List<Integer> children() {
        List<Integer> children = new ArrayList<>();
        for (int state = 0; state < parents.size(); state++) {
            if (parents.get(state) == now) {
                children.add(state);
            }
        }
        return children;
    }

    private int unlike(int state, int other) {
        int count = 0;
        for (int column = 0; column < 16; column++) {
            count += Arrays.equals(worlds.get(state)[column], worlds.get(other)[column]) ? 0 : 1;
        }
        return count;
    }

    private String cut() {
        dies.add(heights());
        strikes.add(0);
        return told(dies.size() - 1);
    }

    /** The heights of a die for a strike, or for the next one that would come. */
    private List<Integer> dieAt(int die, int strike) {
        List<Integer> heights = new ArrayList<>(dies.get(die));
        for (int wears = (strike - 1) / 2; wears > 0; wears--) {
            int highest = Collections.max(heights);
            if (highest > 0) {
                heights.set(heights.indexOf(highest), highest - 1);
            }
        }
        return heights;
    }

    private String strike(int die) {
        int number = strikes.get(die) + 1;
        strikes.set(die, number);
        return keep(dieAt(die, number), die, number);
    }

    private String forge(int coin, int die, int number) {
        if (!in(coin, coins.size()) || !in(die, dies.size())) {
            return INDEX;
        }
        if (!in(number - 1, 60)) {
            return ARGUMENT;
        }
        return coins.size() == 60 || strikes.get(die) < number ? STATE : keep(coins.get(coin), die, number);
    }

    private String keep(List<Integer> heights, int die, int number) {
        coins.add(heights);
        told.add(new int[] {die, number});
        return told(coins.size() - 1);
    }

    private int grade(int coin) {
        return Math.max(0, 100 - 5 * distance(coins.get(coin), dies.get(told.get(coin)[0])));
    }

    private boolean isForged(int coin) {
        return !coins.get(coin).equals(dieAt(told.get(coin)[0], told.get(coin)[1]));
    }

    private static int distance(List<Integer> row, List<Integer> other) {
        int sum = 0;
        for (int column = 0; column < 16; column++) {
            sum += Math.abs(row.get(column) - other.get(column));
        }
        return sum;
    }
}
