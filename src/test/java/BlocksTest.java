/** Promises 1 to 11: a new object, and the calls about blocks. */
public final class BlocksTest {
    private static final int MAX = Integer.MAX_VALUE;
    private static final int MIN = Integer.MIN_VALUE;

    public static void main(String[] args) {
        promise1NewObject();
        promise2Set();
        promise2SetRefuses();
        promise3Raise();
        promise3RaiseRefuses();
        promise4Layer();
        promise4LayerRefuses();
        promise5Kind();
        promise6Runs();
        promise7RunLength();
        promise8And9Blocks();
        promise10PiecesTouchLevelsAndSpots();
        promise10PiecesOfManyShapes();
        promise11Height();
        Check.end("BlocksTest");
    }

    private static void promise1NewObject() {
        Voxelmint world = new Voxelmint();
        for (int column = 0; column < 16; column++) {
            for (int level = 0; level < 8; level++) {
                Check.due("new: kind(" + column + ", " + level + ")", world.kind(column, level), 0);
            }
            Check.due("new: height(" + column + ")", world.height(column), 0);
            Check.due("new: runs(" + column + ")", world.runs(column), 1);
        }
        Check.due("new: blocks", world.blocks(), 0);
        Check.due("new: blocksOneByOne", world.blocksOneByOne(), 0);
        Check.due("new: pieces", world.pieces(), 0);
        Check.due("new: state", world.state(), 0);
        Check.due("new: states", world.states(), 1);
        Check.due("new: branches", world.branches(), 0);
        Check.noSuchIndex("new: no die", () -> world.strike(0));
        Check.noSuchIndex("new: no coin", () -> world.grade(0));
    }

    private static void promise2Set() {
        Voxelmint world = new Voxelmint();
        Check.due("set first place", world.set(0, 0, 1), 1);
        Check.due("set last place", world.set(15, 7, 3), 2);
        Check.due("set between", world.set(6, 3, 2), 3);
        Check.due("first place", world.kind(0, 0), 1);
        Check.due("last place", world.kind(15, 7), 3);
        Check.due("between", world.kind(6, 3), 2);
        Check.due("above is left", world.kind(6, 4), 0);
        Check.due("below is left", world.kind(6, 2), 0);
        Check.due("next column is left", world.kind(7, 3), 0);
        Check.due("blocks set", world.blocks(), 3);
        Check.due("set another kind", world.set(6, 3, 3), 4);
        Check.due("another kind", world.kind(6, 3), 3);
        Check.due("set air", world.set(6, 3, 0), 5);
        Check.due("air", world.kind(6, 3), 0);
        Check.due("set what is there", world.set(0, 0, 1), 6);
        Check.due("state of now", world.state(), 6);
        Check.due("states", world.states(), 7);
        Check.due("set from another state", world.visit(2), 6);
        Check.due("next number, not next of parent", world.set(0, 0, 2), 7);
        Check.due("parent's blocks stay", world.kind(15, 7), 3);
        Check.due("parent", world.undo(), 2);
        Check.due("parent is as it was", world.kind(0, 0), 1);
    }

    private static void promise2SetRefuses() {
        Voxelmint world = new Voxelmint();
        Check.noSuchIndex("set column -1", () -> world.set(-1, 0, 1));
        Check.noSuchIndex("set column 16", () -> world.set(16, 0, 1));
        Check.noSuchIndex("set level -1", () -> world.set(0, -1, 1));
        Check.noSuchIndex("set level 8", () -> world.set(0, 8, 1));
        Check.noSuchIndex("set column MAX", () -> world.set(MAX, 0, 1));
        Check.noSuchIndex("set level MIN", () -> world.set(0, MIN, 1));
        Check.noSuchIndex("set level and kind", () -> world.set(0, 8, 4));
        Check.noSuchIndex("set column and kind", () -> world.set(16, 0, -1));
        Check.badArgument("set kind -1", () -> world.set(0, 0, -1));
        Check.badArgument("set kind 4", () -> world.set(0, 0, 4));
        Check.badArgument("set kind MAX", () -> world.set(15, 7, MAX));
        Check.badArgument("set kind MIN", () -> world.set(15, 7, MIN));
        Check.due("refused sets make no state", world.states(), 1);
        Check.due("refused sets make no block", world.blocks(), 0);
        for (int state = 1; state <= 60; state++) {
            Check.due("state " + state, world.set(0, state % 8, 1 + state % 3), state);
        }
        Check.due("61 states", world.states(), 61);
        Check.badState("set in the 61st state", () -> world.set(1, 0, 1));
        Check.badArgument("set kind in the 61st state", () -> world.set(1, 0, 4));
        Check.noSuchIndex("set column in the 61st state", () -> world.set(16, 0, 1));
        Check.noSuchIndex("set all in the 61st state", () -> world.set(0, -1, 9));
        Check.due("still 61 states", world.states(), 61);
        Check.due("still the state 60", world.state(), 60);
        Check.due("still no block", world.kind(1, 0), 0);
        world.visit(0);
        Check.badState("set behind 61 states, in the state 0", () -> world.set(1, 0, 1));
        Check.due("still in the state 0", world.state(), 0);
    }

    private static void promise3Raise() {
        Voxelmint world = new Voxelmint();
        Check.due("raise first column", world.raise(0, 8, 1), 1);
        Check.due("raise last column", world.raise(15, 1, 3), 2);
        Check.due("full height", world.height(0), 8);
        Check.due("full top", world.kind(0, 7), 1);
        Check.due("full is one run", world.runs(0), 1);
        Check.due("one block", world.kind(15, 0), 3);
        Check.due("above one block", world.kind(15, 1), 0);
        Check.due("blocks", world.blocks(), 9);
        Check.due("raise lower", world.raise(0, 3, 2), 3);
        Check.due("below the height", world.kind(0, 2), 2);
        Check.due("bottom", world.kind(0, 0), 2);
        Check.due("at the height", world.kind(0, 3), 0);
        Check.due("top is air now", world.kind(0, 7), 0);
        Check.due("raise to 0", world.raise(0, 0, 3), 4);
        Check.due("no block is left", world.height(0), 0);
        Check.due("others are left", world.blocks(), 1);
        Check.due("raise to what is there", world.raise(0, 0, 1), 5);
        Check.due("one change each", world.states(), 6);
        Check.due("one undo takes it back", world.undo() + world.undo(), 4 + 3);
        Check.due("taken back", world.height(0), 3);
    }

    private static void promise3RaiseRefuses() {
        Voxelmint world = new Voxelmint();
        Check.noSuchIndex("raise column -1", () -> world.raise(-1, 1, 1));
        Check.noSuchIndex("raise column 16", () -> world.raise(16, 1, 1));
        Check.noSuchIndex("raise column and height", () -> world.raise(16, 9, 1));
        Check.noSuchIndex("raise column and kind", () -> world.raise(MIN, 1, 0));
        Check.badArgument("raise height -1", () -> world.raise(0, -1, 1));
        Check.badArgument("raise height 9", () -> world.raise(0, 9, 1));
        Check.badArgument("raise height MAX", () -> world.raise(0, MAX, 1));
        Check.badArgument("raise kind 0", () -> world.raise(0, 1, 0));
        Check.badArgument("raise kind 0 to height 0", () -> world.raise(0, 0, 0));
        Check.badArgument("raise kind 4", () -> world.raise(0, 1, 4));
        Check.badArgument("raise kind MIN", () -> world.raise(0, 1, MIN));
        Check.due("refused raises make no state", world.states(), 1);
        Check.due("refused raises make no block", world.blocks(), 0);
        for (int state = 1; state <= 60; state++) {
            Check.due("raise " + state, world.raise(state % 16, state % 9, 1 + state % 3), state);
        }
        int blocks = world.blocks();
        Check.badState("raise in the 61st state", () -> world.raise(0, 8, 1));
        Check.badArgument("raise height in the 61st state", () -> world.raise(0, 9, 1));
        Check.badArgument("raise kind in the 61st state", () -> world.raise(0, 8, 0));
        Check.noSuchIndex("raise column in the 61st state", () -> world.raise(-1, 8, 1));
        Check.due("still 61 states", world.states(), 61);
        Check.due("still the blocks", world.blocks(), blocks);
    }

    private static void promise4Layer() {
        Voxelmint world = new Voxelmint();
        Check.due("bottom layer", world.layer(0, 1), 1);
        Check.due("top layer", world.layer(7, 3), 2);
        for (int column = 0; column < 16; column++) {
            Check.due("bottom of " + column, world.kind(column, 0), 1);
            Check.due("above bottom of " + column, world.kind(column, 1), 0);
            Check.due("below top of " + column, world.kind(column, 6), 0);
            Check.due("top of " + column, world.kind(column, 7), 3);
        }
        Check.due("blocks of two layers", world.blocks(), 32);
        Check.due("layer of air", world.layer(7, 0), 3);
        Check.due("blocks of one layer", world.blocks(), 16);
        Check.due("layer of what is there", world.layer(0, 1), 4);
        Check.due("one change each", world.states(), 5);
        Check.due("undo the same", world.undo(), 3);
        Check.due("undo the air", world.undo(), 2);
        Check.due("two layers again", world.blocks(), 32);
    }

    private static void promise4LayerRefuses() {
        Voxelmint world = new Voxelmint();
        Check.noSuchIndex("layer -1", () -> world.layer(-1, 1));
        Check.noSuchIndex("layer 8", () -> world.layer(8, 1));
        Check.noSuchIndex("layer MAX", () -> world.layer(MAX, 1));
        Check.noSuchIndex("layer and kind", () -> world.layer(8, 4));
        Check.badArgument("layer kind -1", () -> world.layer(0, -1));
        Check.badArgument("layer kind 4", () -> world.layer(7, 4));
        Check.due("refused layers make no state", world.states(), 1);
        Check.due("refused layers make no block", world.blocks(), 0);
        for (int state = 1; state <= 60; state++) {
            Check.due("layer " + state, world.layer(state % 8, state % 4), state);
        }
        int blocks = world.blocks();
        Check.badState("layer in the 61st state", () -> world.layer(0, 1));
        Check.badArgument("layer kind in the 61st state", () -> world.layer(0, 4));
        Check.noSuchIndex("layer level in the 61st state", () -> world.layer(8, 1));
        Check.due("still 61 states", world.states(), 61);
        Check.due("still the blocks", world.blocks(), blocks);
    }

    private static void promise5Kind() {
        Voxelmint world = new Voxelmint();
        for (int column = 0; column < 16; column++) {
            world.set(column, column % 8, 1 + column % 3);
        }
        for (int column = 0; column < 16; column++) {
            for (int level = 0; level < 8; level++) {
                int due = level == column % 8 ? 1 + column % 3 : 0;
                Check.due("kind(" + column + ", " + level + ")", world.kind(column, level), due);
            }
        }
        Check.noSuchIndex("kind column -1", () -> world.kind(-1, 0));
        Check.noSuchIndex("kind column 16", () -> world.kind(16, 0));
        Check.noSuchIndex("kind level -1", () -> world.kind(1, -1));
        Check.noSuchIndex("kind level 8", () -> world.kind(0, 8));
        Check.noSuchIndex("kind level MIN", () -> world.kind(15, MIN));
        Check.noSuchIndex("kind column MAX", () -> world.kind(MAX, 7));
    }

    private static void promise6Runs() {
        Voxelmint world = new Voxelmint();
        Check.due("runs of air", world.runs(15), 1);
        world.raise(0, 8, 2);
        Check.due("runs of a full column", world.runs(0), 1);
        world.set(0, 7, 3);
        Check.due("another kind on top", world.runs(0), 2);
        world.set(0, 0, 1);
        Check.due("another kind at the bottom", world.runs(0), 3);
        world.set(0, 4, 0);
        Check.due("air in between", world.runs(0), 5);
        for (int level = 0; level < 8; level += 2) {
            world.set(3, level, 1);
        }
        Check.due("as many runs as levels", world.runs(3), 8);
        Check.due("next column's runs", world.runs(4), 1);
        Check.noSuchIndex("runs column -1", () -> world.runs(-1));
        Check.noSuchIndex("runs column 16", () -> world.runs(16));
        Check.noSuchIndex("runs column MAX", () -> world.runs(MAX));
    }

    private static void promise7RunLength() {
        Voxelmint world = new Voxelmint();
        Check.due("run of air", world.runLength(0, 0), 8);
        Check.noSuchIndex("run 1 of air", () -> world.runLength(0, 1));
        world.raise(2, 6, 1);
        world.set(2, 1, 2);
        world.set(2, 3, 0);
        world.set(2, 4, 0);
        int[] due = {1, 1, 1, 2, 1, 2};
        Check.due("runs", world.runs(2), due.length);
        for (int run = 0; run < due.length; run++) {
            Check.due("run " + run, world.runLength(2, run), due[run]);
        }
        Check.noSuchIndex("run 6", () -> world.runLength(2, 6));
        Check.noSuchIndex("run -1", () -> world.runLength(2, -1));
        Check.noSuchIndex("run MAX", () -> world.runLength(2, MAX));
        Check.noSuchIndex("run MIN", () -> world.runLength(2, MIN));
        Check.noSuchIndex("run of column -1", () -> world.runLength(-1, 0));
        Check.noSuchIndex("run of column 16", () -> world.runLength(16, 0));
        world.raise(15, 8, 3);
        Check.due("run of a full column", world.runLength(15, 0), 8);
        Check.noSuchIndex("run above a full column", () -> world.runLength(15, 1));
        world.set(15, 7, 0);
        Check.due("run below air", world.runLength(15, 0), 7);
        Check.due("run of the last level", world.runLength(15, 1), 1);
    }

    private static void promise8And9Blocks() {
        Voxelmint world = new Voxelmint();
        int due = 0;
        for (int column = 0; column < 16; column++) {
            world.raise(column, column % 9, 1 + column % 3);
            due += column % 9;
            Check.due("blocks, columns to " + column, world.blocks(), due);
            Check.due("blocksOneByOne, columns to " + column, world.blocksOneByOne(), due);
        }
        world.set(8, 3, 0);
        world.set(8, 5, 2);
        world.set(0, 7, 1);
        Check.due("blocks with gaps", world.blocks(), due);
        Check.due("blocksOneByOne with gaps", world.blocksOneByOne(), due);
        for (int level = 0; level < 8; level++) {
            world.layer(level, 1 + level % 3);
        }
        Check.due("blocks of a full world", world.blocks(), 128);
        Check.due("blocksOneByOne of a full world", world.blocksOneByOne(), 128);
    }

    private static void promise10PiecesTouchLevelsAndSpots() {
        Check.due("no piece", pieces(), 0);
        Check.due("one block", pieces(0, 0), 1);
        Check.due("one above the other", pieces(5, 3, 5, 4), 1);
        Check.due("a gap between levels", pieces(5, 3, 5, 5), 2);
        Check.due("next in the first number", pieces(0, 0, 1, 0), 1);
        Check.due("next in the second number", pieces(0, 0, 4, 0), 1);
        Check.due("next in both numbers", pieces(0, 0, 5, 0), 2);
        Check.due("another level of the next", pieces(0, 0, 1, 1), 2);
        Check.due("two apart", pieces(0, 0, 2, 0), 2);
        Check.due("end of a row and begin of the next", pieces(3, 0, 4, 0), 2);
        Check.due("end of a row and begin of the next, last", pieces(11, 7, 12, 7), 2);
        Check.due("begin of a row and end of the one before", pieces(0, 0, 4, 0, 3, 0), 2);
        Check.due("first and last of a row", pieces(0, 0, 3, 0), 2);
        Check.due("first and last row", pieces(0, 0, 12, 0), 2);
        Check.due("top of a column and bottom of the next", pieces(0, 7, 1, 0), 2);
        Check.due("last corner", pieces(15, 7, 14, 7, 11, 7, 15, 6), 1);
        Check.due("two steps in the second number", pieces(0, 0, 8, 0), 2);
    }

    private static void promise10PiecesOfManyShapes() {
        Voxelmint full = new Voxelmint();
        for (int level = 0; level < 8; level++) {
            full.layer(level, 1 + level % 3);
        }
        Check.due("kinds do not part a piece", full.pieces(), 1);
        full.layer(3, 0);
        Check.due("parted by air", full.pieces(), 2);
        full.set(9, 3, 1);
        Check.due("held by one block", full.pieces(), 1);
        Check.due("asked again", full.pieces(), 1);
        Voxelmint towers = new Voxelmint();
        for (int column = 0; column < 16; column++) {
            if ((column / 4 + column) % 2 == 0) {
                towers.raise(column, 8, 1);
            }
        }
        Check.due("towers at odds", towers.pieces(), 8);
        towers.layer(0, 2);
        Check.due("towers on a ground", towers.pieces(), 1);
        towers.layer(0, 0);
        Check.due("towers in the air", towers.pieces(), 8);
        towers.visit(0);
        Check.due("pieces of another state", towers.pieces(), 0);
        Voxelmint winding = new Voxelmint();
        int[] path = {0, 1, 2, 3, 7, 11, 15, 14, 13, 12, 8, 9};
        for (int column : path) {
            winding.set(column, 0, 1);
        }
        winding.set(9, 1, 1);
        winding.set(5, 1, 1);
        Check.due("a winding piece", winding.pieces(), 1);
        winding.set(15, 0, 0);
        Check.due("a winding piece cut", winding.pieces(), 2);
    }

    private static int pieces(int... columnsAndLevels) {
        Voxelmint world = new Voxelmint();
        for (int i = 0; i < columnsAndLevels.length; i += 2) {
            world.set(columnsAndLevels[i], columnsAndLevels[i + 1], 1 + i % 3);
        }
        return world.pieces();
    }

    private static void promise11Height() {
        Voxelmint world = new Voxelmint();
        for (int height = 0; height <= 8; height++) {
            world.raise(height, height, 1);
            Check.due("height " + height, world.height(height), height);
        }
        world.set(15, 7, 3);
        Check.due("height above air", world.height(15), 8);
        world.set(15, 2, 3);
        Check.due("the highest block counts", world.height(15), 8);
        world.set(15, 7, 0);
        Check.due("the next highest", world.height(15), 3);
        Check.due("height of a column of air", world.height(14), 0);
        Check.noSuchIndex("height column -1", () -> world.height(-1));
        Check.noSuchIndex("height column 16", () -> world.height(16));
        Check.noSuchIndex("height column MIN", () -> world.height(MIN));
    }
}
