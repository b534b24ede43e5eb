/** The edges of the promises 19 to 26: dies and coins. */
public final class MintEdgesTest {
    private static final String INDEX = Check.INDEX;
    private static final String ARGUMENT = Check.ARGUMENT;
    private static final String STATE = Check.STATE;

    /** 8 dies without strikes, each of one block at the bottom of column 0. */
    private static final String EIGHT_DIES = "set(0, 0, 1);" + "cut();".repeat(8);

    /** Die 0 of a full world, and die 1 of one block, which has worn down to 0; coins 0 and 3 differ in all heights. */
    private static final String FULL_AND_WORN_DOWN = Ways.ALL_BLOCKS + "cut(); visit(0); set(0, 0, 1); cut();"
            + "strike(0); strike(1); strike(1); strike(1);";

    public static void main(String[] args) {
        promise19CutWithoutPieces();
        promise19CutOfManyPieces();
        promise19CutOfOnePiece();
        promise19CutTheLastDie();
        promise20StrikeOutside();
        promise20StrikeFirstAndLastDie();
        promise20StrikeTheLastCoin();
        promise20WearsBehindEachSecondStrike();
        promise20WearsTheLowestOfTheHighest();
        promise20WearsDownToNothing();
        promise21ForgeOutside();
        promise21ForgeFirstAndLast();
        promise21ForgeOfAStrikeNotMade();
        promise21ForgeIsNoStrike();
        promise21ForgeTheLastCoin();
        promise21ForgeOrderOfExceptions();
        promise22DieHeightOutside();
        promise22DieHeightLeastAndGreatest();
        promise23CoinHeightOutside();
        promise23CoinHeightLeastAndGreatest();
        promise24GradeOutside();
        promise24GradeFirstAndLast();
        promise24GradeIsNotLessThanNothing();
        promise24GradeOfAForgedCoin();
        promise25IsForgedOutside();
        promise25IsForgedFirstAndLast();
        promise25IsForgedByTheDieAndNumberTold();
        promise25IsForgedOfAWornDownDie();
        promise26DistanceOutside();
        promise26DistanceLeastAndGreatest();
        Check.end("MintEdgesTest");
    }

    private static void promise19CutWithoutPieces() {
        String what = "promise 19, cut of air";
        Edge.refuses(what, Ways.NONE, "cut()", STATE);
        Edge.refuses(what + " where dies are", Ways.SOME + "visit(0)", "cut()", STATE);
        Edge.refuses(what + " made again", "set(0, 0, 1); set(0, 0, 0)", "cut()", STATE);
        Edge.refuses(what + " with 8 dies", EIGHT_DIES + "visit(0)", "cut()", STATE);
    }

    private static void promise19CutOfManyPieces() {
        String what = "promise 19, cut";
        Edge.refuses(what + " of two pieces", "set(0, 0, 1); set(2, 0, 1)", "cut()", STATE);
        Edge.refuses(what + " of two at a corner", "set(0, 0, 1); set(5, 0, 1)", "cut()", STATE);
        Edge.refuses(what + " of two in a column", "set(0, 0, 1); set(0, 2, 1)", "cut()", STATE);
        Edge.refuses(what + " of the lowest and the highest layer", "layer(0, 1); layer(7, 1)", "cut()", STATE);
        Edge.refuses(what + " of two with dies", Ways.SOME + "set(15, 7, 1)", "cut()", STATE);
        Edge.refuses(what + " of two with 8 dies", EIGHT_DIES + "set(2, 0, 1)", "cut()", STATE);
    }

    private static void promise19CutOfOnePiece() {
        String what = "promise 19, cut of one piece";
        Edge.answers(what, "set(0, 0, 1)", "cut(); dieHeight(0, 0); dieHeight(0, 1)", "0", "1", "0");
        Edge.answers(what, "set(15, 7, 3)", "cut(); dieHeight(0, 15); dieHeight(0, 14)", "0", "8", "0");
        Edge.answers(what, Ways.ALL_BLOCKS, "cut(); dieHeight(0, 0); dieHeight(0, 15)", "0", "8", "8");
        Edge.answers(what, Ways.ALL_STATES_IN_A_ROW, "cut(); cut(); states()", "0", "1", "61");
    }

    private static void promise19CutTheLastDie() {
        String what = "promise 19, die";
        String seven = "set(0, 0, 1);" + "cut();".repeat(7);
        Edge.answers(what + " 7", seven, "cut(); dieHeight(7, 0); strike(7); dieHeight(8, 0)", "7", "1", "0", INDEX);
        Edge.refuses(what + " 8", EIGHT_DIES, "cut()", STATE);
        Edge.refuses(what + " 8 of another state", EIGHT_DIES + "layer(0, 1)", "cut()", STATE);
        Edge.refuses(what + " 8, all full", Ways.ALL, "cut()", STATE);
    }

    private static void promise20StrikeOutside() {
        String what = "promise 20, die";
        Edge.refusesOutside(what + ", no die", Ways.NONE, "strike(?)", 0, -1, INDEX);
        Edge.refusesOutside(what + ", one die", Ways.SOME, "strike(?)", 0, 0, INDEX);
        Edge.refusesOutside(what + ", 8 dies", EIGHT_DIES, "strike(?)", 0, 7, INDEX);
        Edge.refusesOutside(what + " and coins", Ways.ALL, "strike(?)", 0, 7, INDEX);
        Edge.refusesOutside(what + " and coins, one die", Ways.ALL_COINS_OF_ONE_DIE, "strike(?)", 0, 0, INDEX);
    }

    private static void promise20StrikeFirstAndLastDie() {
        String what = "promise 20, first and last die";
        String struck = EIGHT_DIES + "strike(0); strike(7);";
        Edge.answers(what, EIGHT_DIES, "strike(0); strike(7)", "0", "1");
        Edge.answers(what, struck, "dieHeight(0, 0); dieHeight(7, 0)", "1", "1");
        Edge.answers(what, struck, "strike(7); dieHeight(7, 0); dieHeight(0, 0)", "2", "0", "1");
        Edge.answers(what, Ways.SOME, "strike(0); coinHeight(4, 0); coinHeight(4, 4)", "4", "2", "1");
    }

    private static void promise20StrikeTheLastCoin() {
        String what = "promise 20, coin";
        String fiftyNine = "raise(0, 8, 1); cut(); cut(); strike(1);" + "strike(0);".repeat(58);
        Edge.answers(what + " 59", fiftyNine, "strike(0); coinHeight(59, 0); coinHeight(60, 0)", "59", "0", INDEX);
        Edge.answers(what + " 59 of the other die", fiftyNine, "strike(1); coinHeight(59, 0)", "59", "8");
        Edge.refuses(what + " 60", fiftyNine + "strike(0)", "strike(0)", STATE);
        Edge.refuses(what + " 60, which would wear", fiftyNine + "strike(0)", "strike(1)", STATE);
        Edge.refuses(what + " 60 of a worn die", Ways.ALL_COINS_OF_ONE_DIE, "strike(0)", STATE);
        Edge.refuses(what + " 60, all full, first die", Ways.ALL, "strike(0)", STATE);
        Edge.refuses(what + " 60, all full, last die", Ways.ALL, "strike(7)", STATE);
        Edge.refuses(what + " 60 behind forged ones", Ways.SOME + "forge(0, 0, 1);".repeat(56), "strike(0)", STATE);
    }

    private static void promise20WearsBehindEachSecondStrike() {
        String what = "promise 20, wear";
        String struck = "strike(0); dieHeight(0, 0);";
        Edge.answers(what, "raise(0, 8, 1); cut()", struck + struck, "0", "8", "1", "7");
        Edge.answers(what, "raise(0, 8, 1); cut(); strike(0); strike(0)", struck + struck, "2", "7", "3", "6");
        String coins = "coinHeight(0, 0); coinHeight(1, 0); coinHeight(2, 0); coinHeight(3, 0)";
        Edge.answers(what, "raise(0, 8, 1); cut();" + "strike(0);".repeat(4), coins, "8", "8", "7", "7");
    }

    private static void promise20WearsTheLowestOfTheHighest() {
        String what = "promise 20, wear of one column";
        String twice = "strike(0); strike(0);";
        String ends = "dieHeight(0, 0); dieHeight(0, 1); dieHeight(0, 14); dieHeight(0, 15)";
        Edge.answers(what + " of all", Ways.ALL_BLOCKS + "cut();" + twice, ends, "7", "8", "8", "8");
        Edge.answers(what + " behind the first", Ways.ALL_BLOCKS + "cut();" + twice.repeat(2),
                ends, "7", "7", "8", "8");
        Edge.answers(what + " before the last", Ways.ALL_BLOCKS + "cut();" + twice.repeat(15),
                ends, "7", "7", "7", "8");
        Edge.answers(what + ", the last", Ways.ALL_BLOCKS + "cut();" + twice.repeat(16), ends, "7", "7", "7", "7");
        Edge.answers(what + ", the first again", Ways.ALL_BLOCKS + "cut();" + twice.repeat(17),
                ends, "6", "7", "7", "7");
        String lastHighest = "layer(0, 1); raise(15, 2, 1); cut();";
        Edge.answers(what + ", the last alone", lastHighest + twice, ends, "1", "1", "1", "1");
    }

    private static void promise20WearsDownToNothing() {
        String what = "promise 20, worn down to 0";
        String one = "set(15, 0, 1); cut();";
        String coins = "coinHeight(1, 15); coinHeight(2, 15); coinHeight(2, 0)";
        Edge.answers(what, one + "strike(0)", "dieHeight(0, 15); strike(0); dieHeight(0, 15)", "1", "1", "0");
        Edge.answers(what + ", coins", one + "strike(0); strike(0); strike(0)", coins, "1", "0", "0");
        String heights = "dieHeight(0, 0); dieHeight(0, 15); strike(0); dieHeight(0, 0); dieHeight(0, 15)";
        Edge.answers(what + ", wears no more", one + "strike(0);".repeat(3), heights, "0", "0", "3", "0", "0");
        Edge.answers(what + ", 60 strikes", Ways.ALL_COINS_OF_ONE_DIE, "dieHeight(0, 0); coinHeight(59, 0)", "0", "0");
    }

    private static void promise21ForgeOutside() {
        Edge.refusesOutside("promise 21, coin, none", EIGHT_DIES, "forge(?, 0, 1)", 0, -1, INDEX);
        Edge.refusesOutside("promise 21, coin", Ways.SOME, "forge(?, 0, 1)", 0, 3, INDEX);
        Edge.refusesOutside("promise 21, coin of 60", Ways.ALL, "forge(?, 0, 1)", 0, 59, INDEX);
        Edge.refusesOutside("promise 21, die, none", Ways.NONE, "forge(0, ?, 1)", 0, -1, INDEX);
        Edge.refusesOutside("promise 21, die", Ways.SOME, "forge(0, ?, 1)", 0, 0, INDEX);
        Edge.refusesOutside("promise 21, die of 8", Ways.ALL, "forge(0, ?, 1)", 0, 7, INDEX);
        Edge.refusesOutside("promise 21, number", Ways.SOME, "forge(0, 0, ?)", 1, 60, ARGUMENT);
        Edge.refusesOutside("promise 21, number of the last", Ways.SOME, "forge(3, 0, ?)", 1, 60, ARGUMENT);
    }

    private static void promise21ForgeFirstAndLast() {
        String what = "promise 21, ends";
        Edge.answers(what, Ways.SOME, "forge(0, 0, 1); coinHeight(4, 0); coinHeight(5, 0)", "4", "3", INDEX);
        Edge.answers(what, Ways.SOME, "forge(3, 0, 3); coinHeight(4, 0); coinHeight(4, 4)", "4", "2", "1");
        String dies = EIGHT_DIES + "strike(0); strike(7);";
        Edge.answers(what, dies, "forge(0, 0, 1); forge(1, 7, 1); forge(3, 0, 1)", "2", "3", "4");
        String fiftyNine = "set(0, 0, 1); cut();" + "strike(0);".repeat(59);
        Edge.answers(what, fiftyNine, "forge(58, 0, 59); coinHeight(59, 0); isForged(59)", "59", "0", "0");
    }

    private static void promise21ForgeOfAStrikeNotMade() {
        String what = "promise 21, number";
        Edge.refuses(what + " 1 of no strikes", Ways.SOME + "cut()", "forge(0, 1, 1)", STATE);
        Edge.refuses(what + " 60 of no strikes", Ways.SOME + "cut()", "forge(0, 1, 60)", STATE);
        Edge.refuses(what + " 4 of 3", Ways.SOME, "forge(0, 0, 4)", STATE);
        Edge.refuses(what + " 60 of 3", Ways.SOME, "forge(0, 0, 60)", STATE);
        Edge.refuses(what + " 3 of 2, behind other dies'", Ways.SOME + "cut(); strike(1); strike(1)",
                "forge(0, 1, 3)", STATE);
        String fiftyNine = "set(0, 0, 1); cut();" + "strike(0);".repeat(59);
        Edge.refuses(what + " 60 of 59", fiftyNine, "forge(0, 0, 60)", STATE);
    }

    private static void promise21ForgeIsNoStrike() {
        String what = "promise 21, a forgery is no strike";
        Edge.refuses(what, Ways.SOME + "forge(0, 0, 3)", "forge(0, 0, 4)", STATE);
        String calls = "dieHeight(0, 0); strike(0); dieHeight(0, 0); strike(0); dieHeight(0, 0)";
        String way = "raise(0, 8, 1); cut(); strike(0); forge(0, 0, 1);";
        Edge.answers(what, way, calls, "8", "2", "7", "3", "7");
        Edge.answers(what, way + "forge(0, 0, 1)", calls, "8", "3", "7", "4", "7");
    }

    private static void promise21ForgeTheLastCoin() {
        String what = "promise 21, coin";
        String fiftyNine = Ways.SOME + "forge(0, 0, 1);".repeat(55);
        Edge.answers(what + " 59", fiftyNine,
                "forge(58, 0, 1); coinHeight(59, 0); coinHeight(60, 0)", "59", "3", INDEX);
        Edge.refuses(what + " 60", fiftyNine + "forge(0, 0, 1)", "forge(0, 0, 1)", STATE);
        Edge.refuses(what + " 60, of the last", Ways.ALL_COINS_OF_ONE_DIE, "forge(59, 0, 60)", STATE);
        Edge.refuses(what + " 60, all full", Ways.ALL, "forge(59, 7, 1)", STATE);
    }

    private static void promise21ForgeOrderOfExceptions() {
        String what = "promise 21, order";
        String all = Ways.ALL_COINS_OF_ONE_DIE;
        Edge.refuses(what + ", coin and die", Ways.SOME, "forge(4, 1, 1)", INDEX);
        Edge.refuses(what + ", coin and number", Ways.SOME, "forge(4, 0, 0)", INDEX);
        Edge.refuses(what + ", die and number", Ways.SOME, "forge(0, 1, 61)", INDEX);
        Edge.refuses(what + ", coin and strikes", Ways.SOME, "forge(-1, 0, 4)", INDEX);
        Edge.refuses(what + ", die and strikes", Ways.SOME, "forge(0, -1, 60)", INDEX);
        Edge.refuses(what + ", number and strikes", Ways.SOME + "cut()", "forge(0, 1, 61)", ARGUMENT);
        Edge.refuses(what + ", coin and coins", all, "forge(60, 0, 1)", INDEX);
        Edge.refuses(what + ", die and coins", all, "forge(0, 1, 1)", INDEX);
        Edge.refuses(what + ", number 0 and coins", all, "forge(0, 0, 0)", ARGUMENT);
        Edge.refuses(what + ", number 61 and coins", all, "forge(0, 0, 61)", ARGUMENT);
        Edge.refuses(what + ", coins and strikes", Ways.ALL, "forge(0, 0, 60)", STATE);
        Edge.refuses(what + ", coin, number and coins", all, "forge(MAX, 0, MAX)", INDEX);
        Edge.refuses(what + ", die, number and coins", all, "forge(0, MIN, MIN)", INDEX);
    }

    private static void promise22DieHeightOutside() {
        String what = "promise 22, ";
        Edge.refusesOutside(what + "die, none", Ways.NONE, "dieHeight(?, 0)", 0, -1, INDEX);
        Edge.refusesOutside(what + "die", Ways.SOME, "dieHeight(?, 15)", 0, 0, INDEX);
        Edge.refusesOutside(what + "die of 8", Ways.ALL, "dieHeight(?, 0)", 0, 7, INDEX);
        Edge.refusesOutside(what + "column", Ways.SOME, "dieHeight(0, ?)", 0, 15, INDEX);
        Edge.refusesOutside(what + "column of the last die", Ways.ALL, "dieHeight(7, ?)", 0, 15, INDEX);
        Edge.refuses(what + "die and column", Ways.SOME, "dieHeight(1, 16)", INDEX);
        Edge.refuses(what + "die and column", Ways.SOME, "dieHeight(-1, -1)", INDEX);
    }

    private static void promise22DieHeightLeastAndGreatest() {
        String what = "promise 22, ends";
        String calls = "dieHeight(0, 0); dieHeight(0, 15); dieHeight(1, 0); dieHeight(1, 15)";
        Edge.answers(what, FULL_AND_WORN_DOWN, calls, "8", "8", "0", "0");
        Edge.answers(what, EIGHT_DIES, "dieHeight(7, 0); dieHeight(7, 15)", "1", "0");
        Edge.answers(what + ", as it is now", FULL_AND_WORN_DOWN,
                "strike(0); dieHeight(0, 0); dieHeight(0, 15)", "4", "7", "8");
    }

    private static void promise23CoinHeightOutside() {
        String what = "promise 23, ";
        Edge.refusesOutside(what + "coin, none", EIGHT_DIES, "coinHeight(?, 0)", 0, -1, INDEX);
        Edge.refusesOutside(what + "coin", Ways.SOME, "coinHeight(?, 15)", 0, 3, INDEX);
        Edge.refusesOutside(what + "coin of 60", Ways.ALL, "coinHeight(?, 0)", 0, 59, INDEX);
        Edge.refusesOutside(what + "column", Ways.SOME, "coinHeight(0, ?)", 0, 15, INDEX);
        Edge.refusesOutside(what + "column of the last coin", Ways.ALL, "coinHeight(59, ?)", 0, 15, INDEX);
        Edge.refuses(what + "coin and column", Ways.SOME, "coinHeight(4, 16)", INDEX);
        Edge.refuses(what + "coin and column", Ways.SOME, "coinHeight(-1, -1)", INDEX);
    }

    private static void promise23CoinHeightLeastAndGreatest() {
        String what = "promise 23, ends";
        String calls = "coinHeight(0, 0); coinHeight(0, 15); coinHeight(3, 0); coinHeight(3, 15)";
        Edge.answers(what, FULL_AND_WORN_DOWN, calls, "8", "8", "0", "0");
        Edge.answers(what + ", of 60", Ways.ALL_COINS_OF_ONE_DIE, "coinHeight(0, 0); coinHeight(59, 0)", "1", "0");
        Edge.answers(what + ", a forged coin", Ways.SOME,
                "coinHeight(3, 0); coinHeight(3, 4); coinHeight(3, 15)", "2", "1", "0");
    }

    private static void promise24GradeOutside() {
        Edge.refusesOutside("promise 24, coin, none", EIGHT_DIES, "grade(?)", 0, -1, INDEX);
        Edge.refusesOutside("promise 24, coin", Ways.SOME, "grade(?)", 0, 3, INDEX);
        Edge.refusesOutside("promise 24, coin of 60", Ways.ALL, "grade(?)", 0, 59, INDEX);
    }

    private static void promise24GradeFirstAndLast() {
        String what = "promise 24, grade";
        Edge.answers(what, Ways.SOME, "grade(0); grade(1); grade(2); grade(3)", "100", "100", "95", "95");
        Edge.answers(what + " of 60", Ways.ALL_COINS_OF_ONE_DIE, "grade(0); grade(59)", "100", "95");
        Edge.answers(what + " of a coin of 0", FULL_AND_WORN_DOWN, "grade(0); grade(3)", "100", "95");
    }

    private static void promise24GradeIsNotLessThanNothing() {
        String what = "promise 24, grade, not less than 0";
        String worn = "layer(0, 1); layer(1, 1); cut();" + "strike(0);".repeat(60);
        Edge.answers(what, worn, "distance(0, 39); grade(38); grade(39)", "19", "5", "5");
        Edge.answers(what, worn, "distance(0, 41); grade(40); grade(41)", "20", "0", "0");
        Edge.answers(what, worn, "distance(0, 42); grade(42); grade(59)", "21", "0", "0");
        String forged = FULL_AND_WORN_DOWN + "forge(3, 0, 1); forge(0, 1, 1);";
        Edge.answers(what + ", at a distance of 128 and of 127", forged, "grade(4); grade(5)", "0", "0");
    }

    private static void promise24GradeOfAForgedCoin() {
        String what = "promise 24, grade of a forged coin by the die that is told";
        String dies = "raise(0, 3, 1); cut(); raise(0, 5, 1); cut(); strike(0); strike(1);";
        Edge.answers(what, dies + "forge(0, 1, 1); forge(1, 0, 1)", "grade(2); grade(3)", "90", "90");
        Edge.answers(what, dies + "forge(0, 0, 1); forge(1, 1, 1)", "grade(2); grade(3)", "100", "100");
        String worn = "raise(0, 3, 1); cut();" + "strike(0);".repeat(3);
        Edge.answers(what + ", as it was first", worn + "forge(0, 0, 3); forge(2, 0, 3)",
                "grade(3); grade(4)", "100", "95");
    }

    private static void promise25IsForgedOutside() {
        Edge.refusesOutside("promise 25, coin, none", EIGHT_DIES, "isForged(?)", 0, -1, INDEX);
        Edge.refusesOutside("promise 25, coin", Ways.SOME, "isForged(?)", 0, 3, INDEX);
        Edge.refusesOutside("promise 25, coin of 60", Ways.ALL, "isForged(?)", 0, 59, INDEX);
    }

    private static void promise25IsForgedFirstAndLast() {
        String what = "promise 25, isForged";
        Edge.answers(what, Ways.SOME, "isForged(0); isForged(1); isForged(2); isForged(3)", "0", "0", "0", "1");
        Edge.answers(what + " of 60 struck", Ways.ALL_COINS_OF_ONE_DIE, "isForged(0); isForged(59)", "0", "0");
        Edge.answers(what + " of the last forged", Ways.ALL, "isForged(0); isForged(58); isForged(59)", "0", "0", "1");
    }

    private static void promise25IsForgedByTheDieAndNumberTold() {
        String what = "promise 25, isForged";
        String first = Ways.SOME + "forge(0, 0, 1); forge(0, 0, 2); forge(0, 0, 3)";
        Edge.answers(what + ", a first coin told as each", first,
                "isForged(4); isForged(5); isForged(6)", "0", "0", "1");
        String third = Ways.SOME + "forge(2, 0, 1); forge(2, 0, 2); forge(2, 0, 3)";
        Edge.answers(what + ", a third coin told as each", third,
                "isForged(4); isForged(5); isForged(6)", "1", "1", "0");
        String ofForged = Ways.SOME + "forge(3, 0, 3); forge(4, 0, 1)";
        Edge.answers(what + ", forged of a forged coin", ofForged, "isForged(4); isForged(5)", "0", "1");
        String otherDie = Ways.SOME + "cut(); set(0, 7, 1); raise(0, 4, 1); cut(); strike(1); strike(2);";
        String told = otherDie + "forge(0, 1, 1); forge(0, 2, 1)";
        Edge.answers(what + ", told of other dies", told, "isForged(6); isForged(7)", "0", "1");
        Edge.answers(what + ", behind more wear", told + "; strike(1); strike(1)",
                "isForged(4); isForged(6)", "0", "0");
    }

    private static void promise25IsForgedOfAWornDownDie() {
        String what = "promise 25, isForged of a die worn down to 0";
        String worn = "set(0, 0, 1); cut();" + "strike(0);".repeat(6);
        String alike = worn + "forge(2, 0, 3); forge(2, 0, 6); forge(5, 0, 3)";
        Edge.answers(what, alike, "isForged(6); isForged(7); isForged(8)", "0", "0", "0");
        String unlike = worn + "forge(2, 0, 2); forge(1, 0, 3); forge(0, 0, 6)";
        Edge.answers(what, unlike, "isForged(6); isForged(7); isForged(8)", "1", "1", "1");
    }

    private static void promise26DistanceOutside() {
        String what = "promise 26, ";
        Edge.refusesOutside(what + "coin, none", EIGHT_DIES, "distance(?, 0)", 0, -1, INDEX);
        Edge.refusesOutside(what + "coin", Ways.SOME, "distance(?, 3)", 0, 3, INDEX);
        Edge.refusesOutside(what + "other", Ways.SOME, "distance(3, ?)", 0, 3, INDEX);
        Edge.refusesOutside(what + "coin of 60", Ways.ALL, "distance(?, 59)", 0, 59, INDEX);
        Edge.refusesOutside(what + "other of 60", Ways.ALL, "distance(59, ?)", 0, 59, INDEX);
        Edge.refusesOutside(what + "both", Ways.SOME, "distance(?, ?)", 0, 3, INDEX);
    }

    private static void promise26DistanceLeastAndGreatest() {
        String what = "promise 26, distance";
        Edge.answers(what + " of a coin and itself", Ways.SOME, "distance(0, 0); distance(3, 3)", "0", "0");
        Edge.answers(what + " of coins alike", Ways.SOME, "distance(0, 1); distance(2, 3)", "0", "0");
        Edge.answers(what + " of first and last", Ways.SOME, "distance(0, 3); distance(3, 0)", "1", "1");
        Edge.answers(what + " of all and nothing", FULL_AND_WORN_DOWN, "distance(0, 3); distance(3, 0)", "128", "128");
        Edge.answers(what + " of all and one", FULL_AND_WORN_DOWN, "distance(0, 1); distance(1, 0)", "127", "127");
        Edge.answers(what + " of 60", Ways.ALL_COINS_OF_ONE_DIE, "distance(0, 59); distance(59, 59)", "1", "0");
    }
}
