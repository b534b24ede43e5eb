import java.util.ArrayList;
import java.util.List;

/** The methods of the document's face, as it declares them and in its order. */
final class Face {
    private static final String INDEX = "throws " + Check.INDEX;
    private static final String CHANGE = INDEX + ", " + Check.ARGUMENT + ", " + Check.STATE;

    static final List<String> DECLARATIONS = List.of(
        "public int set(int column, int level, int kind) " + CHANGE,
        "public int raise(int column, int height, int kind) " + CHANGE,
        "public int layer(int level, int kind) " + CHANGE,
        "public int kind(int column, int level) " + INDEX,
        "public int runs(int column) " + INDEX,
        "public int runLength(int column, int run) " + INDEX,
        "public int blocks()",
        "public int blocksOneByOne()",
        "public int pieces()",
        "public int height(int column) " + INDEX,
        "public int state()",
        "public int states()",
        "public int visit(int state) " + INDEX,
        "public int undo() throws " + Check.STATE,
        "public int redo(int branch) " + INDEX,
        "public int branches()",
        "public int unlike(int state, int other) " + INDEX,
        "public int cut() throws " + Check.STATE,
        "public int strike(int die) " + INDEX + ", " + Check.STATE,
        "public int forge(int coin, int die, int number) " + CHANGE,
        "public int dieHeight(int die, int column) " + INDEX,
        "public int coinHeight(int coin, int column) " + INDEX,
        "public int grade(int coin) " + INDEX,
        "public boolean isForged(int coin) " + INDEX,
        "public int distance(int coin, int other) " + INDEX);

    private Face() {
    }

    static String nameOf(String declaration) {
        String head = declaration.substring(0, declaration.indexOf('('));
        return head.substring(head.lastIndexOf(' ') + 1);
    }

    /** The exceptions of the throws clause, in its order. */
    static List<String> exceptionsOf(String declaration) {
        List<String> exceptions = new ArrayList<>();
        int clause = declaration.indexOf("throws ");
        if (clause >= 0) {
            for (String exception : declaration.substring(clause + "throws ".length()).split(", ")) {
                exceptions.add(exception);
            }
        }
        return exceptions;
    }

    /** The declaration as reflection can tell it: without the names of its arguments. */
    static String withoutNames(String declaration) {
        return declaration.replaceAll("\\b(int|boolean) [a-z]+(?=[,)])", "$1");
    }
}
