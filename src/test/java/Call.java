import java.util.ArrayList;
import java.util.List;

/** A call of the program: its name, and three numbers, of which it takes as many as it has arguments. */
record Call(String name, int a, int b, int c) {

    /** Reads calls written as "set(0, 0, 1); undo(); visit(MAX)". MIN and MAX are the least and the greatest int. */
    static List<Call> readAll(String text) {
        List<Call> calls = new ArrayList<>();
        for (String part : text.split(";")) {
            if (!part.isBlank()) {
                calls.add(read(part.strip()));
            }
        }
        return calls;
    }

    private static Call read(String text) {
        int open = text.indexOf('(');
        int[] numbers = new int[3];
        String inside = text.substring(open + 1, text.length() - 1);
        String[] parts = inside.isBlank() ? new String[0] : inside.split(",");
        for (int i = 0; i < parts.length; i++) {
            numbers[i] = readNumber(parts[i].strip());
        }
        return new Call(text.substring(0, open), numbers[0], numbers[1], numbers[2]);
    }

    private static int readNumber(String text) {
        switch (text) {
            case "MIN": return Integer.MIN_VALUE;
            case "MAX": return Integer.MAX_VALUE;
            default: return Integer.parseInt(text);
        }
    }

    /** The answer as a text, true as 1 and false as 0, or the name of the exception that the program threw. */
    String answerOf(Voxelmint world) {
        try {
            return Integer.toString(callOfBlocks(world));
        } catch (RuntimeException e) {
            return Check.nameOf(e);
        }
    }

    private int callOfBlocks(Voxelmint world) {
        switch (name) {
            case "set": return world.set(a, b, c);
            case "raise": return world.raise(a, b, c);
            case "layer": return world.layer(a, b);
            case "kind": return world.kind(a, b);
            case "runs": return world.runs(a);
            case "runLength": return world.runLength(a, b);
            case "blocks": return world.blocks();
            case "blocksOneByOne": return world.blocksOneByOne();
            case "pieces": return world.pieces();
            case "height": return world.height(a);
            default: return callOfStatesOrMint(world);
        }
    }

    private int callOfStatesOrMint(Voxelmint world) {
        switch (name) {
            case "state": return world.state();
            case "states": return world.states();
            case "visit": return world.visit(a);
            case "undo": return world.undo();
            case "redo": return world.redo(a);
            case "branches": return world.branches();
            case "unlike": return world.unlike(a, b);
            case "cut": return world.cut();
            case "strike": return world.strike(a);
            case "forge": return world.forge(a, b, c);
            case "dieHeight": return world.dieHeight(a, b);
            case "coinHeight": return world.coinHeight(a, b);
            case "grade": return world.grade(a);
            case "isForged": return world.isForged(a) ? 1 : 0;
            case "distance": return world.distance(a, b);
            default: throw new AssertionError(name);
        }
    }

    String told() {
        return name + "(" + a + ", " + b + ", " + c + ")";
    }
}
