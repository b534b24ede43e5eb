/** Ways of calls that several tests start from. */
final class Ways {
    /** A new object. */
    static final String NONE = "";

    /** States 0 to 3, of which 2 and 3 are children of 1, and 3 is that of now; die 0 of 3 strikes; coins 0 to 3. */
    static final String SOME = "raise(0, 3, 1); raise(1, 2, 2); undo(); set(4, 0, 3); cut();"
            + "strike(0); strike(0); strike(0); forge(2, 0, 1);";

    /** 61 states in a row, each but the first with one block at the bottom of column 0. */
    static final String ALL_STATES_IN_A_ROW = "set(0, 0, 1);".repeat(60);

    /** 60 children of the state 0, which is that of now. */
    static final String ALL_STATES_OF_ONE_PARENT = "set(0, 0, 1); undo();".repeat(60);

    /** One block, and 60 strikes of the one die, which has worn down to 0 behind the second. */
    static final String ALL_COINS_OF_ONE_DIE = "set(0, 0, 1); cut();" + "strike(0);".repeat(60);

    /** A block on each level of each column. */
    static final String ALL_BLOCKS = "layer(0, 1); layer(1, 2); layer(2, 3); layer(3, 1);"
            + "layer(4, 2); layer(5, 3); layer(6, 1); layer(7, 2);";

    /** 61 states in a tree, 8 dies and 60 coins, forged ones among them. */
    static final String ALL = allStatesAndDies() + allCoins();

    private Ways() {
    }

    private static String allStatesAndDies() {
        StringBuilder way = new StringBuilder("layer(0, 1);");
        for (int state = 2; state <= 60; state++) {
            if (state % 3 == 0) {
                way.append("visit(").append(state / 2).append(");");
            }
            way.append(String.format("raise(%d, %d, %d);", state % 16, 1 + state % 8, 1 + state % 3));
            if (state % 7 == 0) {
                way.append("cut();");
            }
        }
        return way.toString();
    }

    private static String allCoins() {
        StringBuilder way = new StringBuilder();
        for (int coin = 0; coin < 60; coin++) {
            if (coin % 6 == 5) {
                way.append(String.format("forge(%d, %d, 1);", coin - 1, (coin - 3) % 8));
            } else {
                way.append("strike(").append(coin % 8).append(");");
            }
        }
        return way.toString();
    }
}
