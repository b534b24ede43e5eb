import java.util.List;
import java.util.Set;
import java.util.TreeSet;

/** All promises together: long walks of calls, refused ones among them, each answer compared with the model's. */
public final class WalkTest {
    private static final int WALKS = 600;
    private static final int CALLS_OF_A_WALK = 512;
    private static final String[] CHANGES = {"set", "raise", "layer", "raise"};
    private static final String[] MOVES = {"visit", "undo", "redo"};
    private static final String[] STRIKES = {"cut", "strike", "strike", "forge"};
    private static final String[] QUESTIONS = {
        "kind", "runs", "runLength", "blocks", "blocksOneByOne", "pieces", "height", "state", "states", "branches",
        "unlike", "dieHeight", "coinHeight", "grade", "isForged", "distance",
    };
    private static final String[] BEGINNINGS = {
        Ways.NONE, Ways.NONE, Ways.NONE, Ways.SOME, Ways.ALL_STATES_IN_A_ROW, Ways.ALL_STATES_OF_ONE_PARENT,
        Ways.ALL_COINS_OF_ONE_DIE, Ways.ALL_BLOCKS, Ways.ALL,
    };
    private static final int[] ODD_NUMBERS = {-1, 4, 7, 8, 9, 15, 16, 60, 61, Integer.MIN_VALUE, Integer.MAX_VALUE, -2};

    private static final Set<String> SEEN = new TreeSet<>();
    private static long seed = 1;

    public static void main(String[] args) {
        for (int walk = 0; walk < WALKS; walk++) {
            seed = walk;
            List<Call> beginning = Call.readAll(BEGINNINGS[walk % BEGINNINGS.length]);
            walk("walk " + walk, beginning, 1 + pick(4), 1 + pick(3), 1 + pick(6));
        }
        walksHaveSeenEachKindOfAnswer();
        Check.end("WalkTest");
    }

    /** The weights make walks that run out of states, of coins or of dies, and some that do not. */
    private static void walk(String walk, List<Call> beginning, int changes, int moves, int strikes) {
        Voxelmint world = new Voxelmint();
        Model model = new Model();
        for (int i = 0; i < CALLS_OF_A_WALK; i++) {
            Call call = i < beginning.size() ? beginning.get(i) : pickCall(model, changes, moves, strikes);
            String want = model.call(call.name(), call.a(), call.b(), call.c());
            Check.due(walk + ", call " + i + ": " + call.told(), call.answerOf(world), want);
            SEEN.add(call.name() + " " + want);
            SEEN.add(call.name() + (want.matches("-?[0-9]+") ? " answers" : " throws"));
        }
    }

    /** Walks that miss an answer would say nothing of it. */
    private static void walksHaveSeenEachKindOfAnswer() {
        for (String declaration : Face.DECLARATIONS) {
            String name = Face.nameOf(declaration);
            walksHaveSeen(name + " answers", true);
            walksHaveSeen(name + " throws", declaration.contains("throws"));
            for (String exception : Face.exceptionsOf(declaration)) {
                walksHaveSeen(name + " " + exception, true);
            }
        }
        String[] ends = {
            "set 60", "raise 60", "layer 60", "visit 60", "undo 0", "redo 60", "states 61", "branches 60", "blocks 128",
            "pieces 9", "unlike 0", "unlike 16", "runs 8", "runLength 8", "cut 7", "strike 59", "forge 59", "grade 0",
            "grade 100", "isForged 0", "isForged 1", "dieHeight 0", "dieHeight 8", "coinHeight 8",
        };
        for (String end : ends) {
            walksHaveSeen(end, true);
        }
    }

    private static void walksHaveSeen(String what, boolean want) {
        Check.due("walks have seen: " + what, SEEN.contains(what), want);
    }

    /** The same numbers in every run of the test. */
    private static int pick(int count) {
        seed = seed * 6364136223846793005L + 1442695040888963407L;
        return (int) ((seed >>> 33) % count);
    }

    private static Call pickCall(Model model, int changes, int moves, int strikes) {
        String name = pickName(changes, moves, strikes);
        int a = pickNumber(model, name, 0);
        int b = pickNumber(model, name, 1);
        return new Call(name, a, b, pickNumber(model, name, 2));
    }

    private static String pickName(int changes, int moves, int strikes) {
        int spot = pick(changes + moves + strikes + 8);
        if (spot < changes) {
            return CHANGES[pick(CHANGES.length)];
        }
        if (spot < changes + moves) {
            return MOVES[pick(MOVES.length)];
        }
        return spot < changes + moves + strikes ? STRIKES[pick(STRIKES.length)] : QUESTIONS[pick(QUESTIONS.length)];
    }

    private static int pickNumber(Model model, String name, int argument) {
        return pick(20) == 0 ? ODD_NUMBERS[pick(ODD_NUMBERS.length)] : pick(bound(model, name, argument));
    }

    /** Up to one more than what is there, so that most arguments are good and some are just outside. */
    private static int bound(Model model, String name, int argument) {
        switch (name) {
            case "set":
            case "kind":
                return argument == 0 ? 16 : argument == 1 ? 8 : 4;
            case "raise":
                return argument == 0 ? 16 : argument == 1 ? 9 : 4;
            case "layer":
                return argument == 0 ? 8 : 4;
            case "runs":
            case "runLength":
            case "height":
                return argument == 0 ? 16 : 5;
            case "visit":
            case "unlike":
                return model.states() + 1;
            case "redo":
                return Math.max(3, model.branches() + 1);
            default:
                return boundOfMint(model, name, argument);
        }
    }

    private static int boundOfMint(Model model, String name, int argument) {
        switch (name) {
            case "strike":
                return model.dies() + 1;
            case "dieHeight":
                return argument == 0 ? model.dies() + 1 : 16;
            case "coinHeight":
                return argument == 0 ? model.coins() + 1 : 16;
            case "forge":
                return argument == 0 ? model.coins() + 1 : argument == 1 ? model.dies() + 1 : 12;
            default:
                return model.coins() + 1;
        }
    }
}
