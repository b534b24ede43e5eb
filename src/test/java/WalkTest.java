/** All promises together: long walks of calls, each answer compared with the model's. */
public final class WalkTest {
    private static final int WALKS = 400;
    private static final int CALLS_OF_A_WALK = 512;
    private static final String[] CHANGES = {"set", "raise", "layer", "raise"};
    private static final String[] MOVES = {"visit", "undo", "redo"};
    private static final String[] STRIKES = {"cut", "strike", "strike", "forge"};
    private static final String[] QUESTIONS = {
        "kind", "runs", "runLength", "blocks", "blocksOneByOne", "pieces", "height", "state", "states", "branches",
        "unlike", "dieHeight", "coinHeight", "grade", "isForged", "distance",
    };
    private static final int[] ODD_NUMBERS = {-1, 4, 7, 8, 9, 15, 16, 60, 61, Integer.MIN_VALUE, Integer.MAX_VALUE, -2};

    private static long seed = 1;

    public static void main(String[] args) {
        for (int walk = 0; walk < WALKS; walk++) {
            seed = walk;
            walk("walk " + walk, 1 + pick(4), 1 + pick(3), 1 + pick(6));
        }
        Check.end("WalkTest");
    }

    /** The weights make walks that run out of states, of coins or of dies, and some that do not. */
    private static void walk(String walk, int changes, int moves, int strikes) {
        Voxelmint world = new Voxelmint();
        Model model = new Model();
        for (int i = 0; i < CALLS_OF_A_WALK; i++) {
            String name = pickName(changes, moves, strikes);
            int a = pickNumber(model, name, 0);
            int b = pickNumber(model, name, 1);
            int c = pickNumber(model, name, 2);
            Call call = new Call(name, a, b, c);
            String want = model.call(name, a, b, c);
            Check.due(walk + ", call " + i + ": " + call.told(), call.answerOf(world), want);
        }
    }

    /** The same numbers in every run of the test. */
    private static int pick(int count) {
        seed = seed * 6364136223846793005L + 1442695040888963407L;
        return (int) ((seed >>> 33) % count);
    }

    private static String pickName(int changes, int moves, int strikes) {
        int spot = pick(changes + moves + strikes + 8);
        if (spot < changes) {
            return CHANGES[pick(CHANGES.length)];
        }
        if (spot < changes + moves) {
            return MOVES[pick(MOVES.length)];
        }
        return spot < changes + moves + strikes ? STRIKES[pick(STRIKES.length)] : QUESTIONS[pick(QUESTIONS.length)];
    }

    private static int pickNumber(Model model, String name, int argument) {
        return pick(20) == 0 ? ODD_NUMBERS[pick(ODD_NUMBERS.length)] : pick(bound(model, name, argument));
    }

    /** One more than what is there, so that most arguments are good and some are just outside. */
    private static int bound(Model model, String name, int argument) {
        int states = Integer.parseInt(model.call("states", 0, 0, 0));
        switch (name) {
            case "set":
            case "kind":
                return argument == 0 ? 16 : argument == 1 ? 8 : 4;
            case "raise":
                return argument == 0 ? 16 : argument == 1 ? 9 : 4;
            case "layer":
                return argument == 0 ? 8 : 4;
            case "runs":
            case "runLength":
            case "height":
                return argument == 0 ? 16 : 5;
            case "visit":
            case "unlike":
                return states + 1;
            case "redo":
                return 3;
            default:
                return boundOfMint(name, argument);
        }
    }

    private static int boundOfMint(String name, int argument) {
        switch (name) {
            case "strike":
                return 4;
            case "dieHeight":
                return argument == 0 ? 5 : 16;
            case "coinHeight":
                return argument == 0 ? 40 : 16;
            case "forge":
                return argument == 0 ? 30 : argument == 1 ? 4 : 12;
            default:
                return 40;
        }
    }
}
