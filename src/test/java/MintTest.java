/** Promises 19 to 26: dies and coins. */
public final class MintTest {
    private static final int MAX = Integer.MAX_VALUE;
    private static final int MIN = Integer.MIN_VALUE;

    public static void main(String[] args) {
        promise19Cut();
        promise19CutRefuses();
        promise20Strike();
        promise20DiesWearFromTheLowestOfTheHighest();
        promise20DiesWearDownToNothing();
        promise20StrikeRefuses();
        promise21Forge();
        promise21ForgeRefuses();
        promise22DieHeight();
        promise23CoinHeight();
        promise24Grade();
        promise24GradeStaysAboveNothing();
        promise25IsForged();
        promise26Distance();
        Check.end("MintTest");
    }

    /** A world with a die that has the heights 3, 2, and 0 for the rest. */
    private static Voxelmint worldWithDie() {
        Voxelmint world = new Voxelmint();
        world.raise(0, 3, 1);
        world.raise(1, 2, 2);
        world.cut();
        return world;
    }

    private static Voxelmint worldWithStrikes(int strikes) {
        Voxelmint world = worldWithDie();
        for (int i = 0; i < strikes; i++) {
            world.strike(0);
        }
        return world;
    }

    private static void dieHeights(String what, Voxelmint world, int die, int... due) {
        for (int column = 0; column < 16; column++) {
            int want = column < due.length ? due[column] : 0;
            Check.due(what + ": column " + column, world.dieHeight(die, column), want);
        }
    }

    private static void coinHeights(String what, Voxelmint world, int coin, int... due) {
        for (int column = 0; column < 16; column++) {
            int want = column < due.length ? due[column] : 0;
            Check.due(what + ": column " + column, world.coinHeight(coin, column), want);
        }
    }

    private static void promise19Cut() {
        Voxelmint world = new Voxelmint();
        world.layer(0, 1);
        world.raise(15, 8, 2);
        Check.due("first die", world.cut(), 0);
        world.visit(1);
        Check.due("second die, of another state", world.cut(), 1);
        dieHeights("first die", world, 0, 1, 1, 1, 1, 1, 1, 1, 1, 1, 1, 1, 1, 1, 1, 1, 8);
        dieHeights("second die", world, 1, 1, 1, 1, 1, 1, 1, 1, 1, 1, 1, 1, 1, 1, 1, 1, 1);
        world.layer(1, 1);
        Check.due("dies stay as blocks change", world.dieHeight(1, 0), 1);
        Check.due("a cut makes no state", world.states(), 4);
        world.visit(0);
        world.set(0, 7, 1);
        Check.due("a piece in the air", world.cut(), 2);
        dieHeights("heights above air", world, 2, 8);
    }

    private static void promise19CutRefuses() {
        Voxelmint world = new Voxelmint();
        Check.badState("cut of nothing", world::cut);
        world.set(0, 0, 1);
        world.set(2, 0, 1);
        Check.badState("cut of two pieces", world::cut);
        Check.noSuchIndex("refused cuts make no die", () -> world.dieHeight(0, 0));
        world.set(1, 0, 1);
        for (int die = 0; die < 8; die++) {
            Check.due("die " + die, world.cut(), die);
        }
        Check.badState("the 9th die", world::cut);
        Check.noSuchIndex("there is no 9th die", () -> world.dieHeight(8, 0));
        world.undo();
        Check.badState("the 9th die, of two pieces", world::cut);
        Check.due("the 8th die stays", world.dieHeight(7, 2), 1);
    }

    private static void promise20Strike() {
        Voxelmint world = worldWithDie();
        world.visit(0);
        Check.due("first coin", world.strike(0), 0);
        dieHeights("one strike does not wear", world, 0, 3, 2);
        Check.due("second coin", world.strike(0), 1);
        dieHeights("worn behind the second strike", world, 0, 2, 2);
        coinHeights("first coin", world, 0, 3, 2);
        coinHeights("second coin", world, 1, 3, 2);
        Check.due("third coin", world.strike(0), 2);
        dieHeights("not worn behind the third", world, 0, 2, 2);
        coinHeights("third coin", world, 2, 2, 2);
        world.visit(2);
        world.cut();
        Check.due("coins of all dies are numbered together", world.strike(1), 3);
        dieHeights("a die's own strikes count", world, 1, 3, 2);
        dieHeights("not those of another", world, 0, 2, 2);
        Check.due("fourth strike of the first", world.strike(0), 4);
        dieHeights("worn behind the fourth", world, 0, 1, 2);
        Check.due("second strike of the second", world.strike(1), 5);
        dieHeights("worn behind its second", world, 1, 2, 2);
        Check.due("a strike makes no state", world.states(), 3);
    }

    private static void promise20DiesWearFromTheLowestOfTheHighest() {
        Voxelmint world = new Voxelmint();
        world.layer(0, 1);
        world.raise(5, 2, 1);
        world.raise(15, 2, 1);
        world.cut();
        wear(world, 0);
        Check.due("the lower column first", world.dieHeight(0, 5), 1);
        Check.due("not the last", world.dieHeight(0, 15), 2);
        wear(world, 0);
        Check.due("then the last column", world.dieHeight(0, 15), 1);
        for (int column = 0; column < 16; column++) {
            Check.due("all as high: " + column, world.dieHeight(0, column), 1);
            wear(world, 0);
            Check.due("worn in turn: " + column, world.dieHeight(0, column), 0);
        }
    }

    private static void wear(Voxelmint world, int die) {
        world.strike(die);
        world.strike(die);
    }

    private static void promise20DiesWearDownToNothing() {
        Voxelmint world = worldWithDie();
        for (int i = 0; i < 5; i++) {
            wear(world, 0);
        }
        dieHeights("worn down", world, 0);
        Check.due("a worn die strikes on", world.strike(0), 10);
        Check.due("and again", world.strike(0), 11);
        dieHeights("a worn die wears no more", world, 0);
        coinHeights("a coin of nothing", world, 11);
        coinHeights("the last but nothing", world, 9, 0, 1);
    }

    private static void promise20StrikeRefuses() {
        Voxelmint world = worldWithDie();
        Check.noSuchIndex("strike -1", () -> world.strike(-1));
        Check.noSuchIndex("strike 1", () -> world.strike(1));
        Check.noSuchIndex("strike MAX", () -> world.strike(MAX));
        Check.noSuchIndex("strike MIN", () -> world.strike(MIN));
        Check.noSuchIndex("refused strikes make no coin", () -> world.grade(0));
        world.cut();
        for (int coin = 0; coin < 59; coin++) {
            Check.due("coin " + coin, world.strike(0), coin);
        }
        Check.due("the 60th coin", world.strike(1), 59);
        Check.badState("the 61st coin", () -> world.strike(1));
        Check.badState("the 61st coin, of another die", () -> world.strike(0));
        Check.noSuchIndex("no die and no room", () -> world.strike(2));
        Check.noSuchIndex("there is no 61st coin", () -> world.grade(60));
        Check.due("a refused strike does not wear", world.dieHeight(1, 0), 3);
    }

    private static void promise21Forge() {
        Voxelmint world = worldWithStrikes(3);
        Check.due("forged", world.forge(2, 0, 1), 3);
        coinHeights("heights of the other coin", world, 3, 2, 2);
        dieHeights("a forgery does not wear the die", world, 0, 2, 2);
        Check.due("the next strike", world.strike(0), 4);
        dieHeights("is the fourth", world, 0, 1, 2);
        Check.due("forged of a forged coin", world.forge(3, 0, 4), 5);
        coinHeights("heights of the forged coin", world, 5, 2, 2);
        Check.due("forged of itself", world.forge(0, 0, 1), 6);
        world.raise(2, 1, 1);
        world.cut();
        world.strike(1);
        Check.due("told of another die", world.forge(0, 1, 1), 8);
        coinHeights("with its own heights", world, 8, 3, 2);
        Check.due("a forgery makes no state", world.states(), 4);
    }

    private static void promise21ForgeRefuses() {
        Voxelmint world = worldWithStrikes(2);
        world.cut();
        Check.noSuchIndex("forge coin -1", () -> world.forge(-1, 0, 1));
        Check.noSuchIndex("forge coin 2", () -> world.forge(2, 0, 1));
        Check.noSuchIndex("forge coin MAX", () -> world.forge(MAX, 0, 1));
        Check.noSuchIndex("forge die -1", () -> world.forge(0, -1, 1));
        Check.noSuchIndex("forge die 2", () -> world.forge(0, 2, 1));
        Check.noSuchIndex("forge die MIN", () -> world.forge(0, MIN, 1));
        Check.noSuchIndex("forge coin and number", () -> world.forge(2, 0, 0));
        Check.noSuchIndex("forge die and number", () -> world.forge(0, 2, 61));
        Check.badArgument("forge number 0", () -> world.forge(0, 0, 0));
        Check.badArgument("forge number 61", () -> world.forge(0, 0, 61));
        Check.badArgument("forge number MAX", () -> world.forge(0, 0, MAX));
        Check.badArgument("forge number MIN", () -> world.forge(0, 0, MIN));
        Check.badArgument("forge number 61 of a die without strikes", () -> world.forge(0, 1, 61));
        Check.badState("forge number 3 of 2", () -> world.forge(0, 0, 3));
        Check.badState("forge number 60 of 2", () -> world.forge(0, 0, 60));
        Check.badState("forge number 1 of a die without strikes", () -> world.forge(0, 1, 1));
        Check.noSuchIndex("refused forgeries make no coin", () -> world.grade(2));
        Check.due("forge number 2 of 2", world.forge(0, 0, 2), 2);
        Check.badState("a forgery is no strike", () -> world.forge(0, 0, 3));
        for (int coin = 3; coin < 59; coin++) {
            Check.due("coin " + coin, world.strike(0), coin);
        }
        Check.due("the 60th coin forged", world.forge(58, 0, 58), 59);
        Check.badState("the 61st coin forged", () -> world.forge(0, 0, 1));
        Check.badArgument("number and no room", () -> world.forge(0, 0, 61));
        Check.noSuchIndex("coin and no room", () -> world.forge(60, 0, 1));
        Check.noSuchIndex("die and no room", () -> world.forge(0, 8, 1));
        Check.noSuchIndex("there is no 61st coin", () -> world.grade(60));
        Voxelmint full = worldWithStrikes(60);
        Check.badState("number 60 without room", () -> full.forge(0, 0, 60));
    }

    private static void promise22DieHeight() {
        Voxelmint world = new Voxelmint();
        for (int column = 0; column < 16; column++) {
            world.raise(column, 1 + column % 8, 1);
        }
        world.cut();
        for (int column = 0; column < 16; column++) {
            Check.due("height of the die", world.dieHeight(0, column), 1 + column % 8);
        }
        wear(world, 0);
        Check.due("as it is now", world.dieHeight(0, 7), 7);
        Check.due("the same height, higher column", world.dieHeight(0, 15), 8);
        Check.due("blocks are not worn", world.height(7), 8);
        Check.noSuchIndex("die -1", () -> world.dieHeight(-1, 0));
        Check.noSuchIndex("die 1", () -> world.dieHeight(1, 0));
        Check.noSuchIndex("die MAX", () -> world.dieHeight(MAX, 0));
        Check.noSuchIndex("column -1", () -> world.dieHeight(0, -1));
        Check.noSuchIndex("column 16", () -> world.dieHeight(0, 16));
        Check.noSuchIndex("column MIN", () -> world.dieHeight(0, MIN));
    }

    private static void promise23CoinHeight() {
        Voxelmint world = worldWithStrikes(6);
        coinHeights("coin 0", world, 0, 3, 2);
        coinHeights("coin 3", world, 3, 2, 2);
        coinHeights("coin 5", world, 5, 1, 2);
        wear(world, 0);
        coinHeights("a coin stays as the die wears", world, 5, 1, 2);
        Check.noSuchIndex("coin -1", () -> world.coinHeight(-1, 0));
        Check.noSuchIndex("coin 8", () -> world.coinHeight(8, 0));
        Check.noSuchIndex("coin MIN", () -> world.coinHeight(MIN, 0));
        Check.noSuchIndex("column -1", () -> world.coinHeight(0, -1));
        Check.noSuchIndex("column 16", () -> world.coinHeight(0, 16));
        Check.noSuchIndex("column MAX", () -> world.coinHeight(0, MAX));
    }

    private static void promise24Grade() {
        Voxelmint world = worldWithStrikes(12);
        for (int coin = 0; coin < 12; coin++) {
            int worn = Math.min(coin / 2, 5);
            Check.due("grade of coin " + coin, world.grade(coin), 100 - 5 * worn);
        }
        world.forge(0, 0, 12);
        Check.due("a forgery of the best", world.grade(12), 100);
        world.forge(11, 0, 1);
        Check.due("a forgery of the worst", world.grade(13), 75);
        world.raise(2, 4, 1);
        world.cut();
        world.strike(1);
        Check.due("a coin of another die", world.grade(14), 100);
        world.forge(0, 1, 1);
        Check.due("graded by the die that is told", world.grade(15), 80);
        world.forge(14, 0, 1);
        Check.due("a higher coin is no better", world.grade(16), 80);
        Check.noSuchIndex("grade -1", () -> world.grade(-1));
        Check.noSuchIndex("grade 17", () -> world.grade(17));
        Check.noSuchIndex("grade MAX", () -> world.grade(MAX));
    }

    private static void promise24GradeStaysAboveNothing() {
        Voxelmint world = new Voxelmint();
        world.layer(0, 1);
        world.layer(1, 1);
        world.cut();
        for (int coin = 0; coin < 59; coin++) {
            world.strike(0);
        }
        Check.due("distance 19", world.grade(39), 5);
        Check.due("distance 20", world.grade(40), 0);
        Check.due("distance 21", world.grade(42), 0);
        Check.due("distance 29", world.grade(58), 0);
        Check.due("the distance itself", world.distance(0, 58), 29);
    }

    private static void promise25IsForged() {
        Voxelmint world = worldWithStrikes(12);
        for (int coin = 0; coin < 12; coin++) {
            Check.due("struck coin " + coin, world.isForged(coin), false);
        }
        for (int number = 1; number <= 12; number++) {
            int coin = world.forge(2, 0, number);
            Check.due("forged as number " + number, world.isForged(coin), number != 3 && number != 4);
        }
        Check.due("a worn die's coins are alike", world.isForged(world.forge(10, 0, 12)), false);
        Check.due("but for the last before", world.isForged(world.forge(10, 0, 10)), true);
        world.cut();
        int struck = world.strike(1);
        int alike = world.forge(0, 1, 1);
        int unlike = world.forge(4, 1, 1);
        Check.due("another die, alike", world.isForged(alike), false);
        Check.due("another die, not alike", world.isForged(unlike), true);
        wear(world, 1);
        Check.due("a struck coin as the die wears", world.isForged(struck), false);
        Check.due("a coin alike as the die wears", world.isForged(alike), false);
        int last = world.forge(unlike, 0, 5);
        Check.due("forged of a forged coin, as it is due", world.isForged(last), false);
        Check.noSuchIndex("isForged -1", () -> world.isForged(-1));
        Check.noSuchIndex("isForged of one more", () -> world.isForged(last + 1));
        Check.noSuchIndex("isForged MAX", () -> world.isForged(MAX));
        Voxelmint moved = new Voxelmint();
        moved.raise(0, 2, 1);
        moved.cut();
        moved.visit(0);
        moved.raise(1, 2, 1);
        moved.cut();
        moved.strike(0);
        moved.strike(1);
        Check.due("as many blocks on another column", moved.isForged(moved.forge(0, 1, 1)), true);
    }

    private static void promise26Distance() {
        Voxelmint world = worldWithStrikes(11);
        Check.due("a coin and itself", world.distance(4, 4), 0);
        Check.due("coins alike", world.distance(0, 1), 0);
        Check.due("worn once", world.distance(0, 2), 1);
        Check.due("worn five times", world.distance(0, 10), 5);
        Check.due("the other way", world.distance(10, 0), 5);
        world.visit(0);
        world.raise(15, 8, 1);
        world.cut();
        world.strike(1);
        Check.due("higher here and lower there", world.distance(0, 11), 13);
        Check.due("the same the other way", world.distance(11, 0), 13);
        world.forge(11, 0, 1);
        Check.due("a forgery and its pattern", world.distance(12, 11), 0);
        Check.noSuchIndex("distance -1", () -> world.distance(-1, 0));
        Check.noSuchIndex("distance other -1", () -> world.distance(0, -1));
        Check.noSuchIndex("distance 13", () -> world.distance(13, 0));
        Check.noSuchIndex("distance other 13", () -> world.distance(0, 13));
        Check.noSuchIndex("distance MIN and MAX", () -> world.distance(MIN, MAX));
    }
}
