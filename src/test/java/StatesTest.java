/** Promises 12 to 18: the tree of states. */
public final class StatesTest {
    private static final int MAX = Integer.MAX_VALUE;
    private static final int MIN = Integer.MIN_VALUE;

    public static void main(String[] args) {
        promise12State();
        promise13States();
        promise14Visit();
        promise15Undo();
        promise16Redo();
        promise17Branches();
        promise18Unlike();
        statesKeepTheirBlocks();
        Check.end("StatesTest");
    }

    private static void promise12State() {
        Voxelmint world = new Voxelmint();
        Check.due("first state", world.state(), 0);
        world.set(0, 0, 1);
        Check.due("behind a set", world.state(), 1);
        world.layer(0, 1);
        Check.due("behind a layer", world.state(), 2);
        world.raise(0, 1, 1);
        Check.due("behind a raise", world.state(), 3);
        world.undo();
        Check.due("behind an undo", world.state(), 2);
        world.visit(0);
        Check.due("behind a visit", world.state(), 0);
        world.redo(0);
        Check.due("behind a redo", world.state(), 1);
        world.set(0, 0, 1);
        Check.due("behind a change from there", world.state(), 4);
    }

    private static void promise13States() {
        Voxelmint world = new Voxelmint();
        Check.due("one state", world.states(), 1);
        for (int state = 1; state <= 60; state++) {
            world.visit(state / 3);
            world.set(0, 0, 1);
            Check.due("states", world.states(), state + 1);
        }
        world.visit(0);
        Check.due("no state is lost by a visit", world.states(), 61);
        world.visit(60);
        Check.due("nor made by one", world.states(), 61);
        Check.badState("one more than 61", () -> world.set(0, 0, 1));
        Check.due("61 at the most", world.states(), 61);
    }

    private static void promise14Visit() {
        Voxelmint world = new Voxelmint();
        Check.due("visit the state of now", world.visit(0), 0);
        world.set(3, 3, 3);
        world.set(3, 3, 2);
        Check.due("visit the first", world.visit(0), 2);
        Check.due("air", world.kind(3, 3), 0);
        Check.due("visit between", world.visit(1), 0);
        Check.due("block between", world.kind(3, 3), 3);
        Check.due("visit the last", world.visit(2), 1);
        Check.due("last block", world.kind(3, 3), 2);
        Check.due("visit where it is", world.visit(2), 2);
        Check.noSuchIndex("visit -1", () -> world.visit(-1));
        Check.noSuchIndex("visit 3", () -> world.visit(3));
        Check.noSuchIndex("visit MAX", () -> world.visit(MAX));
        Check.noSuchIndex("visit MIN", () -> world.visit(MIN));
        Check.due("refused visits go nowhere", world.state(), 2);
        for (int state = 3; state <= 60; state++) {
            world.set(0, 0, 1);
        }
        Check.due("visit the first of 61", world.visit(0), 60);
        Check.due("visit the 61st", world.visit(60), 0);
        Check.noSuchIndex("visit the 62nd", () -> world.visit(61));
    }

    private static void promise15Undo() {
        Voxelmint world = new Voxelmint();
        Check.badState("undo in the first state", world::undo);
        Check.due("still the first", world.state(), 0);
        world.set(0, 0, 1);
        world.set(0, 1, 1);
        Check.due("undo", world.undo(), 1);
        Check.due("undone", world.blocks(), 1);
        world.set(0, 2, 1);
        Check.due("undo goes to the parent, not to the number before", world.undo(), 1);
        Check.due("undo again", world.undo(), 0);
        Check.due("all undone", world.blocks(), 0);
        Check.badState("undo no further", world::undo);
        world.visit(3);
        Check.due("undo behind a visit", world.undo(), 1);
        Check.due("no state is lost", world.states(), 4);
    }

    private static void promise16Redo() {
        Voxelmint world = new Voxelmint();
        Check.noSuchIndex("redo without children", () -> world.redo(0));
        world.set(0, 0, 1);
        world.undo();
        Check.due("redo", world.redo(0), 1);
        Check.due("redone", world.kind(0, 0), 1);
        world.set(1, 0, 2);
        world.visit(0);
        world.set(2, 0, 3);
        world.visit(0);
        world.set(3, 0, 1);
        world.visit(0);
        int[] due = {1, 3, 4};
        for (int branch = 0; branch < due.length; branch++) {
            Check.due("redo branch " + branch, world.redo(branch), due[branch]);
            Check.due("state of branch " + branch, world.state(), due[branch]);
            Check.due("back", world.undo(), 0);
        }
        Check.noSuchIndex("redo 3", () -> world.redo(3));
        Check.noSuchIndex("redo -1", () -> world.redo(-1));
        Check.noSuchIndex("redo MAX", () -> world.redo(MAX));
        Check.noSuchIndex("redo MIN", () -> world.redo(MIN));
        Check.due("refused redos go nowhere", world.state(), 0);
        Check.due("redo to a child", world.redo(0), 1);
        Check.due("redo to its child", world.redo(0), 2);
        Check.noSuchIndex("redo from a leaf", () -> world.redo(0));
        Check.due("still the leaf", world.state(), 2);
    }

    private static void promise17Branches() {
        Voxelmint world = new Voxelmint();
        Check.due("no children", world.branches(), 0);
        for (int branch = 1; branch <= 60; branch++) {
            world.set(0, 0, 1);
            Check.due("a new state has no children", world.branches(), 0);
            world.undo();
            Check.due("children", world.branches(), branch);
        }
        Check.due("the 60th child", world.redo(59), 60);
        world.undo();
        Check.noSuchIndex("the 61st child", () -> world.redo(60));
        Voxelmint chain = new Voxelmint();
        chain.set(0, 0, 1);
        chain.set(0, 0, 1);
        chain.visit(0);
        Check.due("children of children do not count", chain.branches(), 1);
    }

    private static void promise18Unlike() {
        Voxelmint world = new Voxelmint();
        world.set(0, 0, 1);
        world.set(0, 0, 2);
        world.set(15, 7, 1);
        world.layer(4, 3);
        world.layer(4, 0);
        Check.due("a state and itself", world.unlike(4, 4), 0);
        Check.due("air and a block", world.unlike(0, 1), 1);
        Check.due("two kinds", world.unlike(1, 2), 1);
        Check.due("first and last column", world.unlike(0, 3), 2);
        Check.due("all columns", world.unlike(3, 4), 16);
        Check.due("all columns, the other way", world.unlike(4, 3), 16);
        Check.due("other states alike", world.unlike(3, 5), 0);
        world.visit(0);
        world.raise(0, 3, 1);
        world.visit(0);
        world.set(0, 2, 1);
        Check.due("alike in height alone", world.unlike(6, 7), 1);
        Check.due("the state of now stays", world.state(), 7);
        Check.noSuchIndex("unlike -1", () -> world.unlike(-1, 0));
        Check.noSuchIndex("unlike other -1", () -> world.unlike(0, -1));
        Check.noSuchIndex("unlike 8", () -> world.unlike(8, 0));
        Check.noSuchIndex("unlike other 8", () -> world.unlike(0, 8));
        Check.noSuchIndex("unlike MAX and MIN", () -> world.unlike(MAX, MIN));
    }

    private static void statesKeepTheirBlocks() {
        Voxelmint world = new Voxelmint();
        for (int state = 1; state <= 60; state++) {
            world.raise(state % 16, 1 + state % 8, 1 + state % 3);
            world.visit(state / 2);
        }
        for (int state = 1; state <= 60; state++) {
            world.visit(state);
            Check.due("column of state " + state, world.height(state % 16), 1 + state % 8);
            Check.due("kind of state " + state, world.kind(state % 16, 0), 1 + state % 3);
        }
    }
}
