import java.io.IOException;
import java.nio.file.Files;
import java.nio.file.Path;
import java.util.HashMap;
import java.util.List;
import java.util.Map;
import java.util.TreeSet;
import java.util.regex.Matcher;
import java.util.regex.Pattern;

/** Each answer that README.md shows behind a call of its examples. They go on with one object. */
public final class ReadmeTest {
    private static final String BEGIN = "Voxelmint world = new Voxelmint();";
    private static final Pattern LINE = Pattern.compile(
            "(?:int ([a-z]+) = )?world\\.([A-Za-z]+)\\(([a-z0-9, ]*)\\); +// ((?:throws )?[A-Za-z0-9]+)(: [^:]+)?");

    private static final Map<String, String> VARIABLES = new HashMap<>();
    private static final TreeSet<String> SHOWN = new TreeSet<>();
    private static Voxelmint world = null;

    public static void main(String[] args) throws IOException {
        boolean isExample = false;
        for (String line : Files.readAllLines(Path.of("README.md"))) {
            if (line.startsWith("```")) {
                isExample = line.equals("```java");
            } else if (isExample) {
                checkLine(line);
            }
        }
        for (String declaration : Face.DECLARATIONS) {
            String name = Face.nameOf(declaration);
            Check.due("README.md shows " + name, SHOWN.contains(name), true);
        }
        Check.end("ReadmeTest");
    }

    private static void checkLine(String line) {
        if (line.equals(BEGIN)) {
            world = new Voxelmint();
            return;
        }
        Matcher parts = LINE.matcher(line);
        if (world == null || !parts.matches()) {
            Check.due("README.md has the line", line, "a call with its answer");
            return;
        }
        String name = parts.group(2);
        Check.due("README.md: " + line, answerOf(name, parts.group(3)), parts.group(4));
        SHOWN.add(name);
        if (parts.group(1) != null) {
            VARIABLES.put(parts.group(1), parts.group(4));
        }
    }

    private static String answerOf(String name, String arguments) {
        StringBuilder call = new StringBuilder(name).append('(');
        for (String argument : List.of(arguments.split(", "))) {
            call.append(VARIABLES.getOrDefault(argument, argument)).append(',');
        }
        call.setCharAt(call.length() - 1, ')');
        return asShown(name, Call.readAll(call.toString()).get(0).answerOf(world));
    }

    private static String asShown(String name, String answer) {
        if (!answer.matches("[0-9]+")) {
            return "throws " + answer;
        }
        return name.equals("isForged") ? Boolean.toString(answer.equals("1")) : answer;
    }
}
