import java.io.IOException;
import java.lang.reflect.Constructor;
import java.lang.reflect.Field;
import java.lang.reflect.Method;
import java.lang.reflect.Modifier;
import java.nio.file.Files;
import java.nio.file.Path;
import java.util.ArrayList;
import java.util.List;
import java.util.TreeSet;
import java.util.regex.Matcher;
import java.util.regex.Pattern;

/** The public face, and the rules of the language that can be seen from the face and from words of the source. */
public final class FaceTest {
    private static final String[] WORDS_OUTSIDE_THE_LANGUAGE = {
        "try", "catch", "finally", "synchronized", "assert", "instanceof", "System.", "->", "::", "hashCode",
        "toString",
    };

    public static void main(String[] args) throws IOException {
        Class<?> face = Voxelmint.class;
        int modifiers = face.getModifiers();
        Check.due("public and final", Modifier.isPublic(modifiers) && Modifier.isFinal(modifiers), true);
        Check.due("no package", face.getPackageName(), "");
        Check.due("NONE", Voxelmint.NONE, -1);
        methodsAreThoseOfTheDocument(face);
        constructorsAndFieldsAreThoseOfTheDocument(face);
        String source = Files.readString(Path.of("src/main/java/Voxelmint.java"));
        sourceHasTheFaceInOrder(source);
        sourceKeepsToTheLanguage(source);
        Check.end("FaceTest");
    }

    private static void methodsAreThoseOfTheDocument(Class<?> face) {
        TreeSet<String> got = new TreeSet<>();
        TreeSet<String> names = new TreeSet<>();
        for (Method method : face.getDeclaredMethods()) {
            if (!Modifier.isPrivate(method.getModifiers())) {
                got.add(told(method));
                names.add(method.getName());
            }
        }
        TreeSet<String> due = new TreeSet<>();
        for (String declaration : Face.DECLARATIONS) {
            due.add(Face.withoutNames(declaration));
        }
        Check.due("methods", got, due);
        noPrivateMethodBearsOneOf(names, face);
    }

    private static void noPrivateMethodBearsOneOf(TreeSet<String> names, Class<?> face) {
        List<Class<?>> classes = new ArrayList<>(List.of(face.getDeclaredClasses()));
        for (Class<?> inside : classes) {
            Check.due(inside + " is static", Modifier.isStatic(inside.getModifiers()), true);
            Check.due(inside + " is not public", Modifier.isPublic(inside.getModifiers()), false);
        }
        classes.add(face);
        for (Class<?> one : classes) {
            for (Method method : one.getDeclaredMethods()) {
                boolean ofTheFace = one == face && !Modifier.isPrivate(method.getModifiers());
                Check.due(method + " has a name of its own", ofTheFace || !names.contains(method.getName()), true);
            }
        }
    }

    private static void constructorsAndFieldsAreThoseOfTheDocument(Class<?> face) {
        Constructor<?>[] constructors = face.getDeclaredConstructors();
        Check.due("one constructor", constructors.length, 1);
        Check.due("without arguments", constructors[0].getParameterCount(), 0);
        Check.due("public", Modifier.isPublic(constructors[0].getModifiers()), true);
        for (Field field : face.getDeclaredFields()) {
            int modifiers = field.getModifiers();
            Check.due(field + " is private", Modifier.isPrivate(modifiers), !field.getName().equals("NONE"));
            boolean canChange = Modifier.isStatic(modifiers) && !Modifier.isFinal(modifiers);
            Check.due(field + " is static and not final", canChange, false);
        }
    }

    private static void sourceKeepsToTheLanguage(String source) {
        for (String word : WORDS_OUTSIDE_THE_LANGUAGE) {
            Check.due("the source has " + word, source.contains(word), false);
        }
        for (String line : source.split("\n")) {
            if (line.startsWith("import ")) {
                Check.due(line, line.matches("import java\\.util\\.(ArrayList|Arrays|List);"), true);
            }
        }
        Check.due("signs 1 to 127 alone", source.chars().allMatch(sign -> sign >= 1 && sign <= 127), true);
    }

    /** Reflection knows neither the order nor the names of arguments. */
    private static void sourceHasTheFaceInOrder(String source) {
        List<String> due = new ArrayList<>(List.of("public static final int NONE = -1", "public Voxelmint()"));
        due.addAll(Face.DECLARATIONS);
        String line = source.replaceAll("\\s+", " ");
        Matcher outward = Pattern.compile("\\bpublic (?!final class)[^;{]*[^;{ ]").matcher(line);
        List<String> got = new ArrayList<>();
        while (outward.find()) {
            got.add(outward.group());
        }
        Check.due("the face in the source", got, due);
    }

    private static String told(Method method) {
        String modifiers = Modifier.toString(method.getModifiers());
        String told = modifiers + " " + method.getReturnType() + " " + method.getName();
        String exceptions = simpleNames(method.getExceptionTypes());
        String clause = exceptions.isEmpty() ? "" : " throws " + exceptions;
        return told + "(" + simpleNames(method.getParameterTypes()) + ")" + clause;
    }

    private static String simpleNames(Class<?>[] types) {
        List<String> names = new ArrayList<>();
        for (Class<?> type : types) {
            names.add(type.getSimpleName());
        }
        return String.join(", ", names);
    }
}
