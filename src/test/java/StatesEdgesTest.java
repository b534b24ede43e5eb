/** The edges of the promises 12 to 18: the tree of states. */
public final class StatesEdgesTest {
    private static final String INDEX = Check.INDEX;
    private static final String STATE = Check.STATE;

    public static void main(String[] args) {
        promise12StateFirstAndLast();
        promise13StatesFewestAndMost();
        promise14VisitOutside();
        promise14VisitFirstAndLast();
        promise14StatesAreNeverLost();
        promise15UndoAtTheFirstState();
        promise15UndoToTheFirstState();
        promise16RedoWithoutChildren();
        promise16RedoOutside();
        promise16RedoFirstAndLast();
        promise17BranchesFewestAndMost();
        promise18UnlikeOutside();
        promise18UnlikeFewestAndMost();
        Check.end("StatesEdgesTest");
    }

    private static void promise12StateFirstAndLast() {
        String what = "promise 12, state";
        Edge.answers(what + ", first", Ways.NONE, "state()", "0");
        Edge.answers(what + ", last", Ways.ALL_STATES_IN_A_ROW, "state()", "60");
        Edge.answers(what + ", first of 61", Ways.ALL_STATES_IN_A_ROW + "visit(0)", "state()", "0");
        Edge.answers(what + ", behind 60 undone", Ways.ALL_STATES_OF_ONE_PARENT, "state()", "0");
    }

    private static void promise13StatesFewestAndMost() {
        String what = "promise 13, states";
        Edge.answers(what + ", fewest", Ways.NONE, "states()", "1");
        Edge.answers(what + ", most", Ways.ALL_STATES_IN_A_ROW, "states()", "61");
        Edge.answers(what + ", most of one parent", Ways.ALL_STATES_OF_ONE_PARENT, "states()", "61");
        Edge.answers(what + ", one more", Ways.ALL_STATES_IN_A_ROW, "set(0, 0, 1); states()", STATE, "61");
    }

    private static void promise14VisitOutside() {
        Edge.refusesOutside("promise 14, one state", Ways.NONE, "visit(?)", 0, 0, INDEX);
        Edge.refusesOutside("promise 14, four states", Ways.SOME, "visit(?)", 0, 3, INDEX);
        Edge.refusesOutside("promise 14, 61 states", Ways.ALL, "visit(?)", 0, 60, INDEX);
        Edge.refusesOutside("promise 14, 61 states, at 0", Ways.ALL_STATES_OF_ONE_PARENT, "visit(?)", 0, 60, INDEX);
    }

    private static void promise14VisitFirstAndLast() {
        String what = "promise 14, ends";
        Edge.answers(what, Ways.NONE, "visit(0); state()", "0", "0");
        Edge.answers(what, Ways.SOME, "visit(0); state(); visit(3); state()", "3", "0", "0", "3");
        Edge.answers(what, Ways.SOME, "visit(3); state(); states()", "3", "3", "4");
        Edge.answers(what, Ways.ALL, "visit(0); state(); blocks(); visit(60); state()", "60", "0", "0", "0", "60");
    }

    private static void promise14StatesAreNeverLost() {
        String what = "promise 14, change on from any state";
        String calls = "visit(2); kind(1, 1); set(15, 7, 1); undo(); branches(); kind(15, 7)";
        Edge.answers(what, Ways.SOME, calls, "3", "2", "4", "2", "1", "0");
        Edge.answers(what, Ways.SOME, "visit(0); layer(0, 1); states(); visit(3); kind(4, 0)", "3", "4", "5", "4", "3");
    }

    private static void promise15UndoAtTheFirstState() {
        String what = "promise 15, undo at the state 0";
        Edge.refuses(what + " of a new object", Ways.NONE, "undo()", STATE);
        Edge.refuses(what + " behind an undo", "set(0, 0, 1); undo()", "undo()", STATE);
        Edge.refuses(what + " behind a visit", Ways.ALL + "visit(0)", "undo()", STATE);
        Edge.refuses(what + " behind 60 undos", Ways.ALL_STATES_IN_A_ROW + "undo();".repeat(60), "undo()", STATE);
    }

    private static void promise15UndoToTheFirstState() {
        String what = "promise 15, undo";
        Edge.answers(what + " to the state 0", "set(0, 0, 1)", "undo(); state(); blocks()", "0", "0", "0");
        Edge.answers(what + " of the last", Ways.ALL_STATES_IN_A_ROW, "undo(); state(); states()", "59", "59", "61");
        String last = Ways.ALL_STATES_OF_ONE_PARENT + "visit(60)";
        Edge.answers(what + " of the last child", last, "undo(); state(); states()", "0", "0", "61");
    }

    private static void promise16RedoWithoutChildren() {
        String what = "promise 16, redo without children";
        Edge.refusesOutside(what + ", new", Ways.NONE, "redo(?)", 0, -1, INDEX);
        Edge.refusesOutside(what + ", a leaf", Ways.SOME, "redo(?)", 0, -1, INDEX);
        Edge.refusesOutside(what + ", another leaf", Ways.SOME + "visit(2)", "redo(?)", 0, -1, INDEX);
        Edge.refusesOutside(what + ", the last", Ways.ALL_STATES_IN_A_ROW, "redo(?)", 0, -1, INDEX);
        Edge.refusesOutside(what + ", last child", Ways.ALL_STATES_OF_ONE_PARENT + "visit(60)",
                "redo(?)", 0, -1, INDEX);
    }

    private static void promise16RedoOutside() {
        String what = "promise 16, redo";
        Edge.refusesOutside(what + " of one child", Ways.SOME + "visit(0)", "redo(?)", 0, 0, INDEX);
        Edge.refusesOutside(what + " of two children", Ways.SOME + "visit(1)", "redo(?)", 0, 1, INDEX);
        Edge.refusesOutside(what + " of 60 children", Ways.ALL_STATES_OF_ONE_PARENT, "redo(?)", 0, 59, INDEX);
    }

    private static void promise16RedoFirstAndLast() {
        String what = "promise 16, ends";
        Edge.answers(what, Ways.SOME + "visit(0)", "redo(0); redo(0); kind(1, 1)", "1", "2", "2");
        Edge.answers(what, Ways.SOME + "visit(1)", "redo(1); state(); kind(4, 0)", "3", "3", "3");
        Edge.answers(what, Ways.ALL_STATES_OF_ONE_PARENT, "redo(0); state(); undo()", "1", "1", "0");
        Edge.answers(what, Ways.ALL_STATES_OF_ONE_PARENT, "redo(59); state(); undo()", "60", "60", "0");
        Edge.answers(what, Ways.ALL_STATES_IN_A_ROW + "undo()", "redo(0); state()", "60", "60");
    }

    private static void promise17BranchesFewestAndMost() {
        String what = "promise 17, branches";
        Edge.answers(what + " of a new object", Ways.NONE, "branches()", "0");
        Edge.answers(what + " of a leaf", Ways.SOME, "branches()", "0");
        Edge.answers(what + " of a first child", Ways.SOME + "visit(2)", "branches()", "0");
        Edge.answers(what + " of the last state", Ways.ALL_STATES_IN_A_ROW,
                "branches(); undo(); branches()", "0", "59", "1");
        Edge.answers(what + " of one child", Ways.SOME + "visit(0)", "branches()", "1");
        Edge.answers(what + " of two children", Ways.SOME + "visit(1)", "branches()", "2");
        Edge.answers(what + " of all", Ways.ALL_STATES_OF_ONE_PARENT, "branches()", "60");
        Edge.answers(what + " of the last child", Ways.ALL_STATES_OF_ONE_PARENT + "visit(60)", "branches()", "0");
    }

    private static void promise18UnlikeOutside() {
        Edge.refusesOutside("promise 18, state, new", Ways.NONE, "unlike(?, 0)", 0, 0, INDEX);
        Edge.refusesOutside("promise 18, other, new", Ways.NONE, "unlike(0, ?)", 0, 0, INDEX);
        Edge.refusesOutside("promise 18, state", Ways.SOME, "unlike(?, 3)", 0, 3, INDEX);
        Edge.refusesOutside("promise 18, other", Ways.SOME, "unlike(3, ?)", 0, 3, INDEX);
        Edge.refusesOutside("promise 18, state of 61", Ways.ALL, "unlike(?, 60)", 0, 60, INDEX);
        Edge.refusesOutside("promise 18, other of 61", Ways.ALL, "unlike(60, ?)", 0, 60, INDEX);
        Edge.refusesOutside("promise 18, both", Ways.SOME, "unlike(?, ?)", 0, 3, INDEX);
    }

    private static void promise18UnlikeFewestAndMost() {
        String what = "promise 18, unlike";
        Edge.answers(what + ", a new object's only state", Ways.NONE, "unlike(0, 0)", "0");
        Edge.answers(what + ", the last and itself", Ways.ALL, "unlike(60, 60)", "0");
        Edge.answers(what + ", air and all blocks", Ways.ALL_BLOCKS, "unlike(0, 8); unlike(8, 0)", "16", "16");
        Edge.answers(what + ", first and last of 61", Ways.ALL_STATES_IN_A_ROW,
                "unlike(0, 60); unlike(1, 60)", "1", "0");
        Edge.answers(what + ", the lowest level of the first column", "set(0, 0, 1)", "unlike(0, 1)", "1");
        Edge.answers(what + ", the highest level of the last column", "set(15, 7, 1)", "unlike(0, 1)", "1");
        Edge.answers(what + ", two levels of a column", "set(15, 0, 1); set(15, 7, 1)", "unlike(0, 2)", "1");
        Edge.answers(what + ", two kinds", "set(0, 7, 2); set(0, 7, 3)", "unlike(1, 2)", "1");
    }
}
