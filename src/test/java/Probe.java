import java.util.ArrayList;
import java.util.List;

/**
 * Asks all that can be asked behind a way of calls, and what calls that go on from there would answer. Each group of
 * questions has a fresh object of its own that goes the same way, since an object is used for 512 calls alone, and
 * since some questions go to other states, or strike coins.
 */
final class Probe {
    private static final int COLUMNS = 16;
    private static final int LEVELS = 8;
    private static final int MOST_CALLS = 512;

    private final List<Call> way;
    private final List<String> answers = new ArrayList<>();
    private Voxelmint world;
    private int calls;
    private int states;
    private int dies;
    private int coins;

    private Probe(List<Call> way) {
        this.way = way;
    }

    /** The questions, each with its answer. The way may hold calls that are refused. */
    static List<String> ask(List<Call> way) {
        Probe probe = new Probe(way);
        probe.countWhatThereIs();
        probe.askBlocks();
        probe.askRuns();
        probe.askStates();
        probe.askUnlike();
        probe.askTree();
        probe.askDies();
        probe.askCoins();
        probe.askWhatComesNext();
        return probe.answers;
    }

    private void begin() {
        world = new Voxelmint();
        calls = 0;
        for (Call call : way) {
            answer(call);
        }
    }

    private String answer(Call call) {
        calls++;
        if (calls > MOST_CALLS) {
            throw new AssertionError("the way is too long for " + call.told());
        }
        return call.answerOf(world);
    }

    private String ask(String name, int... numbers) {
        int b = numbers.length > 1 ? numbers[1] : 0;
        int c = numbers.length > 2 ? numbers[2] : 0;
        Call call = new Call(name, numbers.length > 0 ? numbers[0] : 0, b, c);
        String answer = answer(call);
        answers.add(call.told() + " -> " + answer);
        return answer;
    }

    private void countWhatThereIs() {
        begin();
        states = Integer.parseInt(ask("states"));
        while (!ask("dieHeight", dies, 0).equals(Check.INDEX)) {
            dies++;
        }
        while (!ask("coinHeight", coins, 0).equals(Check.INDEX)) {
            coins++;
        }
    }

    private void askBlocks() {
        begin();
        ask("state");
        ask("branches");
        ask("blocks");
        ask("blocksOneByOne");
        ask("pieces");
        for (int column = 0; column < COLUMNS; column++) {
            ask("height", column);
            askKinds(column);
        }
    }

    private void askKinds(int column) {
        for (int level = 0; level < LEVELS; level++) {
            ask("kind", column, level);
        }
    }

    private void askRuns() {
        begin();
        for (int column = 0; column < COLUMNS; column++) {
            int runs = Integer.parseInt(ask("runs", column));
            for (int run = 0; run <= runs; run++) {
                ask("runLength", column, run);
            }
        }
    }

    private void askStates() {
        for (int state = 0; state <= states; state++) {
            begin();
            ask("visit", state);
            for (int column = 0; column < COLUMNS; column++) {
                askKinds(column);
            }
        }
    }

    private void askUnlike() {
        begin();
        for (int state = 0; state < states; state++) {
            ask("unlike", 0, state);
            ask("unlike", state, state + 1);
        }
    }

    private void askTree() {
        begin();
        for (int state = 0; state < states; state++) {
            ask("visit", state);
            ask("branches");
            ask("undo");
        }
        begin();
        for (int state = 0; state < states; state++) {
            int branch = 0;
            do {
                ask("visit", state);
            } while (!ask("redo", branch++).equals(Check.INDEX));
        }
    }

    private void askDies() {
        begin();
        for (int die = 0; die < dies; die++) {
            askRow("dieHeight", die);
        }
    }

    private void askRow(String question, int number) {
        for (int column = 0; column < COLUMNS; column++) {
            ask(question, number, column);
        }
    }

    private void askCoins() {
        for (int coin = 0; coin <= coins; coin++) {
            begin();
            askRow("coinHeight", coin);
            ask("grade", coin);
            ask("isForged", coin);
            for (int other = 0; other <= coins; other++) {
                ask("distance", coin, other);
            }
        }
    }

    private void askWhatComesNext() {
        begin();
        ask("cut");
        ask("set", 0, 7, 1);
        ask("undo");
        for (int die = 0; die <= dies; die++) {
            begin();
            ask("strike", die);
            askRow("dieHeight", die);
            ask("strike", die);
            askRow("dieHeight", die);
            askStrikesOf(die);
        }
    }

    /** The strikes of a die are seen by the numbers that a forger may tell. */
    private void askStrikesOf(int die) {
        begin();
        int number = 60;
        while (ask("forge", 0, die, number).equals(Check.STATE) && number > 1) {
            number--;
        }
    }
}
