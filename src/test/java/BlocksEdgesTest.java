/** The edges of the promises 1 to 11: a new object, and the calls about blocks. */
public final class BlocksEdgesTest {
    private static final String INDEX = Check.INDEX;
    private static final String ARGUMENT = Check.ARGUMENT;
    private static final String STATE = Check.STATE;

    public static void main(String[] args) {
        promise1NewObject();
        promise1ObjectsShareNothing();
        promise2SetOutside();
        promise2SetAtTheEnds();
        promise2SetWhatIsThere();
        promise2SetInTheLastState();
        promise2SetOrderOfExceptions();
        promise3RaiseOutside();
        promise3RaiseAtTheEnds();
        promise3RaiseWhatIsThere();
        promise3RaiseInTheLastState();
        promise3RaiseOrderOfExceptions();
        promise4LayerOutside();
        promise4LayerAtTheEnds();
        promise4LayerWhatIsThere();
        promise4LayerInTheLastState();
        promise4LayerOrderOfExceptions();
        promise5KindOutside();
        promise5KindAtTheEnds();
        promise6RunsOutside();
        promise6RunsFewestAndMost();
        promise7RunLengthOutside();
        promise7RunLengthOfTheLastRun();
        promise7RunLengthBeyondTheLastRun();
        promise8And9BlocksFewestAndMost();
        promise10PiecesFewestAndMost();
        promise10PiecesAtTheEndsOfRowsAndColumns();
        promise10PiecesInAllDirections();
        promise11HeightOutside();
        promise11HeightLeastAndGreatest();
        Check.end("BlocksEdgesTest");
    }

    private static void promise1NewObject() {
        String what = "promise 1, new";
        String counts = "state(); states(); branches(); blocks(); blocksOneByOne(); pieces()";
        Edge.answers(what, Ways.NONE, counts, "0", "1", "0", "0", "0", "0");
        Edge.refuses(what, Ways.NONE, "undo()", STATE);
        Edge.refuses(what, Ways.NONE, "redo(0)", INDEX);
        Edge.refuses(what, Ways.NONE, "visit(1)", INDEX);
        Edge.refuses(what, Ways.NONE, "unlike(0, 1)", INDEX);
        Edge.refuses(what, Ways.NONE, "unlike(1, 0)", INDEX);
        Edge.refuses(what, Ways.NONE, "cut()", STATE);
        Edge.refuses(what, Ways.NONE, "strike(0)", INDEX);
        Edge.refuses(what, Ways.NONE, "forge(0, 0, 1)", INDEX);
        Edge.refuses(what, Ways.NONE, "dieHeight(0, 0)", INDEX);
        Edge.refuses(what, Ways.NONE, "coinHeight(0, 0)", INDEX);
        Edge.refuses(what, Ways.NONE, "grade(0)", INDEX);
        Edge.refuses(what, Ways.NONE, "isForged(0)", INDEX);
        Edge.refuses(what, Ways.NONE, "distance(0, 0)", INDEX);
    }

    private static void promise1ObjectsShareNothing() {
        var before = Probe.ask(Call.readAll(Ways.NONE));
        Voxelmint first = new Voxelmint();
        for (Call call : Call.readAll(Ways.ALL)) {
            call.answerOf(first);
        }
        Check.due("promise 1, an object beside a full one", Probe.ask(Call.readAll(Ways.NONE)), before);
        Check.due("promise 1, the full one stays", first.states(), 61);
    }

    private static void promise2SetOutside() {
        Edge.refusesOutside("promise 2, column", Ways.SOME, "set(?, 0, 1)", 0, 15, INDEX);
        Edge.refusesOutside("promise 2, level", Ways.SOME, "set(0, ?, 1)", 0, 7, INDEX);
        Edge.refusesOutside("promise 2, kind", Ways.SOME, "set(0, 0, ?)", 0, 3, ARGUMENT);
        Edge.refusesOutside("promise 2, column, new", Ways.NONE, "set(?, 7, 3)", 0, 15, INDEX);
        Edge.refusesOutside("promise 2, level, new", Ways.NONE, "set(15, ?, 3)", 0, 7, INDEX);
        Edge.refusesOutside("promise 2, kind, new", Ways.NONE, "set(15, 7, ?)", 0, 3, ARGUMENT);
    }

    private static void promise2SetAtTheEnds() {
        String what = "promise 2, ends";
        Edge.answers(what, Ways.NONE, "set(0, 0, 1); kind(0, 0); blocks()", "1", "1", "1");
        Edge.answers(what, Ways.NONE, "set(0, 7, 3); kind(0, 7); blocks()", "1", "3", "1");
        Edge.answers(what, Ways.NONE, "set(15, 0, 3); kind(15, 0); blocks()", "1", "3", "1");
        Edge.answers(what, Ways.NONE, "set(15, 7, 1); kind(15, 7); blocks()", "1", "1", "1");
        Edge.answers(what, Ways.ALL_BLOCKS, "set(0, 0, 0); kind(0, 0); blocks()", "9", "0", "127");
        Edge.answers(what, Ways.ALL_BLOCKS, "set(15, 7, 0); kind(15, 7); blocks()", "9", "0", "127");
    }

    private static void promise2SetWhatIsThere() {
        String what = "promise 2, what is there already";
        Edge.answers(what, Ways.NONE, "set(3, 3, 0); state(); states(); undo(); branches()", "1", "1", "2", "0", "1");
        Edge.answers(what, "set(3, 3, 2)", "set(3, 3, 2); unlike(1, 2); states()", "2", "0", "3");
    }

    private static void promise2SetInTheLastState() {
        String what = "promise 2, states";
        String all = Ways.ALL_STATES_IN_A_ROW;
        Edge.answers(what, "set(0, 0, 1);".repeat(59), "states(); set(15, 7, 3); states()", "60", "60", "61");
        Edge.refuses(what, all, "set(1, 0, 1)", STATE);
        Edge.refuses(what + ", what is there already", all, "set(0, 0, 1)", STATE);
        Edge.refuses(what + ", air", all, "set(0, 0, 0)", STATE);
        Edge.refuses(what + ", from the first", all + "visit(0)", "set(0, 0, 1)", STATE);
        Edge.refuses(what + ", of one parent", Ways.ALL_STATES_OF_ONE_PARENT, "set(15, 7, 3)", STATE);
        Edge.refuses(what + ", all full", Ways.ALL, "set(15, 7, 3)", STATE);
    }

    private static void promise2SetOrderOfExceptions() {
        String what = "promise 2, order";
        Edge.refuses(what + ", column and kind", Ways.SOME, "set(16, 0, 4)", INDEX);
        Edge.refuses(what + ", level and kind", Ways.SOME, "set(0, -1, -1)", INDEX);
        Edge.refuses(what + ", column and states", Ways.ALL, "set(-1, 0, 0)", INDEX);
        Edge.refuses(what + ", level and states", Ways.ALL, "set(0, 8, 0)", INDEX);
        Edge.refuses(what + ", kind and states", Ways.ALL, "set(0, 0, 4)", ARGUMENT);
        Edge.refuses(what + ", column, kind and states", Ways.ALL, "set(16, 0, -1)", INDEX);
        Edge.refuses(what + ", level, kind and states", Ways.ALL, "set(0, MAX, MIN)", INDEX);
    }

    private static void promise3RaiseOutside() {
        Edge.refusesOutside("promise 3, column", Ways.SOME, "raise(?, 1, 1)", 0, 15, INDEX);
        Edge.refusesOutside("promise 3, height", Ways.SOME, "raise(0, ?, 1)", 0, 8, ARGUMENT);
        Edge.refusesOutside("promise 3, kind", Ways.SOME, "raise(0, 1, ?)", 1, 3, ARGUMENT);
        Edge.refusesOutside("promise 3, kind to the height 0", Ways.SOME, "raise(0, 0, ?)", 1, 3, ARGUMENT);
        Edge.refusesOutside("promise 3, column, new", Ways.NONE, "raise(?, 8, 3)", 0, 15, INDEX);
        Edge.refusesOutside("promise 3, height, new", Ways.NONE, "raise(15, ?, 3)", 0, 8, ARGUMENT);
        Edge.refusesOutside("promise 3, kind, new", Ways.NONE, "raise(15, 8, ?)", 1, 3, ARGUMENT);
    }

    private static void promise3RaiseAtTheEnds() {
        String what = "promise 3, ends";
        String questions = "height(0); runs(0); kind(0, 0); kind(0, 7); blocks()";
        Edge.answers(what, Ways.NONE, "raise(0, 8, 1);" + questions, "1", "8", "1", "1", "1", "8");
        Edge.answers(what, Ways.NONE, "raise(0, 7, 3);" + questions, "1", "7", "2", "3", "0", "7");
        Edge.answers(what, Ways.NONE, "raise(0, 1, 3);" + questions, "1", "1", "2", "3", "0", "1");
        Edge.answers(what, Ways.ALL_BLOCKS, "raise(0, 0, 1);" + questions, "9", "0", "1", "0", "0", "120");
        Edge.answers(what, Ways.ALL_BLOCKS, "raise(0, 8, 3);" + questions, "9", "8", "1", "3", "3", "128");
        Edge.answers(what, Ways.NONE, "raise(15, 8, 3); height(15); height(14); blocks()", "1", "8", "0", "8");
        Edge.answers(what, Ways.ALL_BLOCKS, "raise(15, 0, 3); height(15); height(14); blocks()", "9", "0", "8", "120");
    }

    private static void promise3RaiseWhatIsThere() {
        String what = "promise 3, what is there already";
        Edge.answers(what, Ways.NONE, "raise(3, 0, 1); state(); states(); undo(); branches()", "1", "1", "2", "0", "1");
        Edge.answers(what, "raise(3, 8, 2)", "raise(3, 8, 2); unlike(1, 2); states()", "2", "0", "3");
    }

    private static void promise3RaiseInTheLastState() {
        String what = "promise 3, states";
        String all = Ways.ALL_STATES_IN_A_ROW;
        Edge.answers(what, "set(0, 0, 1);".repeat(59), "raise(15, 8, 3); states()", "60", "61");
        Edge.refuses(what, all, "raise(1, 8, 1)", STATE);
        Edge.refuses(what + ", what is there already", all, "raise(0, 1, 1)", STATE);
        Edge.refuses(what + ", air", all, "raise(0, 0, 1)", STATE);
        Edge.refuses(what + ", from the first", all + "visit(0)", "raise(0, 0, 1)", STATE);
        Edge.refuses(what + ", all full", Ways.ALL, "raise(15, 8, 3)", STATE);
    }

    private static void promise3RaiseOrderOfExceptions() {
        String what = "promise 3, order";
        Edge.refuses(what + ", column and height", Ways.SOME, "raise(16, 9, 1)", INDEX);
        Edge.refuses(what + ", column and kind", Ways.SOME, "raise(-1, 1, 0)", INDEX);
        Edge.refuses(what + ", height and kind", Ways.SOME, "raise(0, 9, 0)", ARGUMENT);
        Edge.refuses(what + ", column and states", Ways.ALL, "raise(16, 1, 1)", INDEX);
        Edge.refuses(what + ", height and states", Ways.ALL, "raise(0, 9, 1)", ARGUMENT);
        Edge.refuses(what + ", kind and states", Ways.ALL, "raise(0, 1, 0)", ARGUMENT);
        Edge.refuses(what + ", column, height, kind and states", Ways.ALL, "raise(MIN, MAX, MIN)", INDEX);
    }

    private static void promise4LayerOutside() {
        Edge.refusesOutside("promise 4, level", Ways.SOME, "layer(?, 1)", 0, 7, INDEX);
        Edge.refusesOutside("promise 4, kind", Ways.SOME, "layer(0, ?)", 0, 3, ARGUMENT);
        Edge.refusesOutside("promise 4, level, new", Ways.NONE, "layer(?, 0)", 0, 7, INDEX);
        Edge.refusesOutside("promise 4, kind, new", Ways.NONE, "layer(7, ?)", 0, 3, ARGUMENT);
    }

    private static void promise4LayerAtTheEnds() {
        String what = "promise 4, ends";
        String questions = "kind(0, 0); kind(15, 0); kind(0, 7); kind(15, 7); blocks()";
        Edge.answers(what, Ways.NONE, "layer(0, 1);" + questions, "1", "1", "1", "0", "0", "16");
        Edge.answers(what, Ways.NONE, "layer(7, 3);" + questions, "1", "0", "0", "3", "3", "16");
        Edge.answers(what, Ways.ALL_BLOCKS, "layer(0, 0);" + questions, "9", "0", "0", "2", "2", "112");
        Edge.answers(what, Ways.ALL_BLOCKS, "layer(7, 0);" + questions, "9", "1", "1", "0", "0", "112");
    }

    private static void promise4LayerWhatIsThere() {
        String what = "promise 4, what is there already";
        Edge.answers(what, Ways.NONE, "layer(7, 0); state(); states(); undo(); branches()", "1", "1", "2", "0", "1");
        Edge.answers(what, "layer(3, 2)", "layer(3, 2); unlike(1, 2); states()", "2", "0", "3");
    }

    private static void promise4LayerInTheLastState() {
        String what = "promise 4, states";
        String all = Ways.ALL_STATES_IN_A_ROW;
        Edge.answers(what, "set(0, 0, 1);".repeat(59), "layer(7, 3); states()", "60", "61");
        Edge.refuses(what, all, "layer(0, 1)", STATE);
        Edge.refuses(what + ", what is there already", all, "layer(1, 0)", STATE);
        Edge.refuses(what + ", from the first", all + "visit(0)", "layer(0, 0)", STATE);
        Edge.refuses(what + ", all full", Ways.ALL, "layer(7, 3)", STATE);
    }

    private static void promise4LayerOrderOfExceptions() {
        String what = "promise 4, order";
        Edge.refuses(what + ", level and kind", Ways.SOME, "layer(8, 4)", INDEX);
        Edge.refuses(what + ", level and states", Ways.ALL, "layer(-1, 0)", INDEX);
        Edge.refuses(what + ", kind and states", Ways.ALL, "layer(0, 4)", ARGUMENT);
        Edge.refuses(what + ", level, kind and states", Ways.ALL, "layer(8, -1)", INDEX);
    }

    private static void promise5KindOutside() {
        for (String way : new String[] {Ways.NONE, Ways.SOME, Ways.ALL_BLOCKS}) {
            Edge.refusesOutside("promise 5, column", way, "kind(?, 0)", 0, 15, INDEX);
            Edge.refusesOutside("promise 5, level", way, "kind(0, ?)", 0, 7, INDEX);
            Edge.refusesOutside("promise 5, level of the last column", way, "kind(15, ?)", 0, 7, INDEX);
            Edge.refuses("promise 5, column and level", way, "kind(16, 8)", INDEX);
            Edge.refuses("promise 5, column and level", way, "kind(-1, -1)", INDEX);
        }
    }

    private static void promise5KindAtTheEnds() {
        String what = "promise 5, ends";
        String corners = "kind(0, 0); kind(0, 7); kind(15, 0); kind(15, 7)";
        Edge.answers(what, Ways.NONE, corners, "0", "0", "0", "0");
        Edge.answers(what, Ways.ALL_BLOCKS, corners, "1", "2", "1", "2");
        Edge.answers(what, "set(0, 0, 1); set(0, 7, 2); set(15, 0, 3)", corners, "1", "2", "3", "0");
    }

    private static void promise6RunsOutside() {
        for (String way : new String[] {Ways.NONE, Ways.SOME, Ways.ALL_BLOCKS}) {
            Edge.refusesOutside("promise 6, column", way, "runs(?)", 0, 15, INDEX);
        }
    }

    private static void promise6RunsFewestAndMost() {
        String what = "promise 6, runs";
        Edge.answers(what + " of air", Ways.NONE, "runs(0); runs(15)", "1", "1");
        Edge.answers(what + " of one kind", "raise(0, 8, 3)", "runs(0); runs(1)", "1", "1");
        Edge.answers(what + " of each level", Ways.ALL_BLOCKS, "runs(0); runs(15)", "8", "8");
        Edge.answers(what + " of a block at the bottom", "set(15, 0, 1)", "runs(15); runs(14)", "2", "1");
        Edge.answers(what + " of a block at the top", "set(15, 7, 1)", "runs(15); runs(0)", "2", "1");
        Edge.answers(what + " of a block between", "set(15, 3, 1)", "runs(15)", "3");
    }

    private static void promise7RunLengthOutside() {
        for (String way : new String[] {Ways.NONE, Ways.SOME, Ways.ALL_BLOCKS}) {
            Edge.refusesOutside("promise 7, column", way, "runLength(?, 0)", 0, 15, INDEX);
            Edge.refuses("promise 7, column and run", way, "runLength(16, 8)", INDEX);
            Edge.refuses("promise 7, column and run", way, "runLength(-1, -1)", INDEX);
        }
    }

    private static void promise7RunLengthOfTheLastRun() {
        String what = "promise 7, first and last run";
        Edge.answers(what + " of air", Ways.NONE, "runLength(0, 0); runLength(15, 0)", "8", "8");
        Edge.answers(what + " of one kind", "raise(15, 8, 2)", "runLength(15, 0)", "8");
        Edge.answers(what + " of each level", Ways.ALL_BLOCKS, "runLength(0, 0); runLength(15, 7)", "1", "1");
        Edge.answers(what + " of air above", "set(0, 0, 1)", "runLength(0, 0); runLength(0, 1)", "1", "7");
        Edge.answers(what + " of air below", "set(0, 7, 1)", "runLength(0, 0); runLength(0, 1)", "7", "1");
    }

    private static void promise7RunLengthBeyondTheLastRun() {
        String what = "promise 7, run";
        Edge.refusesOutside(what + " of air", Ways.NONE, "runLength(0, ?)", 0, 0, INDEX);
        Edge.refusesOutside(what + " of air, last column", Ways.NONE, "runLength(15, ?)", 0, 0, INDEX);
        Edge.refusesOutside(what + " of one kind", "raise(15, 8, 2)", "runLength(15, ?)", 0, 0, INDEX);
        Edge.refusesOutside(what + " of two", Ways.SOME, "runLength(0, ?)", 0, 1, INDEX);
        Edge.refusesOutside(what + " of three", "set(0, 3, 1)", "runLength(0, ?)", 0, 2, INDEX);
        Edge.refusesOutside(what + " of each level", Ways.ALL_BLOCKS, "runLength(0, ?)", 0, 7, INDEX);
    }

    private static void promise8And9BlocksFewestAndMost() {
        String what = "promises 8 and 9, blocks";
        String both = "blocks(); blocksOneByOne()";
        Edge.answers(what + " of none", Ways.NONE, both, "0", "0");
        Edge.answers(what + " of none again", Ways.ALL_BLOCKS + "visit(0)", both, "0", "0");
        Edge.answers(what + ", one at the bottom of the first column", "set(0, 0, 1)", both, "1", "1");
        Edge.answers(what + ", one at the top of the last column", "set(15, 7, 3)", both, "1", "1");
        Edge.answers(what + ", all", Ways.ALL_BLOCKS, both, "128", "128");
        Edge.answers(what + ", all but the first", Ways.ALL_BLOCKS + "set(0, 0, 0)", both, "127", "127");
        Edge.answers(what + ", all but the last", Ways.ALL_BLOCKS + "set(15, 7, 0)", both, "127", "127");
        Edge.answers(what + ", a column of one kind", "raise(0, 8, 2)", both, "8", "8");
    }

    private static void promise10PiecesFewestAndMost() {
        String what = "promise 10, pieces";
        Edge.answers(what + " of none", Ways.NONE, "pieces()", "0");
        Edge.answers(what + " of none again", Ways.ALL_BLOCKS + "visit(0)", "pieces()", "0");
        Edge.answers(what + " of one block", "set(15, 7, 3)", "pieces()", "1");
        Edge.answers(what + " of all", Ways.ALL_BLOCKS, "pieces()", "1");
        Edge.answers(what + " that never touch", noBlocksThatTouch(), "blocks(); pieces()", "64", "64");
        Edge.answers(what + " held by one more", noBlocksThatTouch(), "set(5, 1, 1); pieces()", "45", "59");
    }

    /** Every second place in all directions: 64 blocks by 44 changes. */
    private static String noBlocksThatTouch() {
        StringBuilder evenLevels = new StringBuilder();
        StringBuilder oddLevels = new StringBuilder();
        for (int column = 0; column < 16; column++) {
            if ((column % 4 + column / 4) % 2 == 0) {
                evenLevels.append(String.format("raise(%d, 8, 1);", column));
            } else {
                oddLevels.append("set(C, 1, 2); set(C, 3, 2); set(C, 5, 2); set(C, 7, 2);".replace("C", "" + column));
            }
        }
        return evenLevels + "layer(1, 0); layer(3, 0); layer(5, 0); layer(7, 0);" + oddLevels;
    }

    private static void promise10PiecesAtTheEndsOfRowsAndColumns() {
        String what = "promise 10, ";
        for (int row = 0; row < 3; row++) {
            String ends = String.format("set(%d, 0, 1); set(%d, 0, 1)", 4 * row + 3, 4 * row + 4);
            Edge.answers(what + "the end of a row and the begin of the next", ends, "pieces()", "2");
        }
        for (int column = 0; column < 15; column++) {
            String ends = String.format("set(%d, 7, 1); set(%d, 0, 1)", column, column + 1);
            Edge.answers(what + "the top of a column and the bottom of the next", ends, "pieces()", "2");
        }
        Edge.answers(what + "bottom and top of a column", "set(0, 0, 1); set(0, 7, 1)", "pieces()", "2");
        Edge.answers(what + "first and last of a row", "set(12, 0, 1); set(15, 0, 1)", "pieces()", "2");
        Edge.answers(what + "first and last row", "set(3, 7, 1); set(15, 7, 1)", "pieces()", "2");
        Edge.answers(what + "first and last place", "set(0, 0, 1); set(15, 7, 1)", "pieces()", "2");
        Edge.answers(what + "the last two of a row", "set(14, 7, 1); set(15, 7, 2)", "pieces()", "1");
        Edge.answers(what + "the last two rows", "set(11, 7, 1); set(15, 7, 2)", "pieces()", "1");
        Edge.answers(what + "the last two levels", "set(15, 6, 1); set(15, 7, 2)", "pieces()", "1");
    }

    private static void promise10PiecesInAllDirections() {
        String what = "promise 10, a piece that ";
        Edge.answers(what + "goes up", atTheBottom(5) + "set(5, 1, 1)", "pieces()", "1");
        Edge.answers(what + "comes down", "set(0, 5, 1); set(1, 5, 1); set(1, 4, 1)", "pieces()", "1");
        Edge.answers(what + "goes on in a row, back in another", atTheBottom(0, 1, 2, 6, 10, 9, 8), "pieces()", "1");
        Edge.answers(what + "goes on over rows, back over them", atTheBottom(0, 4, 8, 9, 10, 6, 2), "pieces()", "1");
        Edge.answers(what + "ends two rows below a block", atTheBottom(0, 4, 8, 9, 10, 2), "pieces()", "2");
        Edge.answers(what + "ends at the begin of the second row", atTheBottom(0, 4, 3), "pieces()", "2");
        Edge.answers(what + "ends at the begin of the third row", atTheBottom(0, 4, 8, 7), "pieces()", "2");
        Edge.answers(what + "ends at the begin of the last row", atTheBottom(0, 4, 8, 12, 11), "pieces()", "2");
        Edge.answers(what + "ends at the end of the first row", atTheBottom(0, 1, 2, 3, 8), "pieces()", "2");
    }

    private static String atTheBottom(int... columns) {
        StringBuilder way = new StringBuilder();
        for (int column : columns) {
            way.append("set(").append(column).append(", 0, 1);");
        }
        return way.toString();
    }

    private static void promise11HeightOutside() {
        for (String way : new String[] {Ways.NONE, Ways.SOME, Ways.ALL_BLOCKS}) {
            Edge.refusesOutside("promise 11, column", way, "height(?)", 0, 15, INDEX);
        }
    }

    private static void promise11HeightLeastAndGreatest() {
        String what = "promise 11, height";
        Edge.answers(what + " without blocks", Ways.NONE, "height(0); height(15)", "0", "0");
        Edge.answers(what + " of all blocks", Ways.ALL_BLOCKS, "height(0); height(15)", "8", "8");
        Edge.answers(what + " of the lowest block", "set(15, 0, 1)", "height(15); height(14)", "1", "0");
        Edge.answers(what + " of the highest block", "set(0, 7, 3)", "height(0); height(1)", "8", "0");
        Edge.answers(what + " above a gap", "set(0, 0, 1); set(0, 5, 1)", "height(0)", "6");
        Edge.answers(what + " of air again", "raise(0, 8, 1); raise(0, 0, 1)", "height(0)", "0");
    }
}
