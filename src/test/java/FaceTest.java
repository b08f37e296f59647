import java.io.IOException;
import java.lang.reflect.Constructor;
import java.lang.reflect.Field;
import java.lang.reflect.Method;
import java.lang.reflect.Modifier;
import java.nio.file.Files;
import java.nio.file.Path;
import java.util.Arrays;
import java.util.Set;
import java.util.TreeSet;
import java.util.regex.Matcher;
import java.util.regex.Pattern;

/** The public face as the document has it, and those rules of LANGUAGE.md that a plain look can see. */
public final class FaceTest {
    private static final Check CHECK = new Check("FaceTest");
    private static final String FACE = "int feed(int,int,int,int,int);boolean end(int);int house();int fault(int);int has(int);"
        + "int letter(int,int,int);int far(int);int stair(int,int);int section(int,int);int clerk(int,int);int signed(int,int);"
        + "int out(int);int back(int);int where(int,int);int meets(int,int);int empty();int signs();int posts(int);int wider();"
        + "int wardens();long dear(int,int);long couples();int with(int);int later(int);int see();int shuts(int);int whom(int);"
        + "boolean post(int,int);boolean shut(int,int);int drills(int);int chance(int);boolean undo();boolean seed(int);"
        + "long ask();int image();int octet(int);boolean on();int status(int)";

    public static void main(String[] args) throws IOException {
        methods();
        fields();
        classes();
        source(Files.readString(Path.of("src/main/java/FireDrill.java")));
        CHECK.finish();
    }

    private static String told(Method m) {
        StringBuilder types = new StringBuilder();
        for (Class<?> type : m.getParameterTypes()) {
            types.append(types.length() == 0 ? "" : ",").append(type.getSimpleName());
        }
        return m.getReturnType().getSimpleName() + " " + m.getName() + "(" + types + ")";
    }

    private static void methods() {
        Set<String> due = new TreeSet<>(Arrays.asList(FACE.split(";")));
        Set<String> got = new TreeSet<>();
        Set<String> names = new TreeSet<>();
        for (Method m : FireDrill.class.getDeclaredMethods()) {
            if (Modifier.isPublic(m.getModifiers())) {
                got.add(told(m));
                names.add(m.getName());
            }
        }
        CHECK.is("the face " + got, got.equals(due), true);
        CHECK.is("methods", got.size(), 38);
        for (Method m : FireDrill.class.getDeclaredMethods()) {
            boolean inner = Modifier.isPrivate(m.getModifiers());
            CHECK.is(m.getName() + " is public or private", Modifier.isPublic(m.getModifiers()) || inner, true);
            CHECK.is(m.getName() + " is no public name", inner && names.contains(m.getName()), false);
            CHECK.is(m.getName() + " has at most seven parameters", m.getParameterCount() <= 7, true);
        }
        Constructor<?>[] constructors = FireDrill.class.getDeclaredConstructors();
        CHECK.is("constructors", constructors.length, 1);
        CHECK.is("public", Modifier.isPublic(constructors[0].getModifiers()), true);
        CHECK.is("without parameters", constructors[0].getParameterCount(), 0);
        CHECK.is("final", Modifier.isFinal(FireDrill.class.getModifiers()), true);
        CHECK.is("public", Modifier.isPublic(FireDrill.class.getModifiers()), true);
    }

    private static void fields() {
        int shown = 0;
        for (Field f : FireDrill.class.getDeclaredFields()) {
            if (!Modifier.isPrivate(f.getModifiers())) {
                shown++;
                CHECK.is(f.getName() + " is a constant", Modifier.isStatic(f.getModifiers()) && Modifier.isFinal(f.getModifiers()), true);
            }
        }
        CHECK.is("public fields", shown, 2);
        CHECK.is("NONE", FireDrill.NONE, -1);
        CHECK.is("NOTHING", FireDrill.NOTHING, -1000000000000000L);
    }

    private static void classes() {
        Class<?>[] inside = FireDrill.class.getDeclaredClasses();
        CHECK.is("classes", inside.length <= 11, true);
        for (Class<?> c : inside) {
            CHECK.is(c.getName() + " is static", Modifier.isStatic(c.getModifiers()), true);
            fieldsOf(c);
            for (Method m : c.getDeclaredMethods()) {
                CHECK.is(m.getName() + " has at most seven parameters", m.getParameterCount() <= 7, true);
            }
        }
        fieldsOf(FireDrill.class);
    }

    private static void fieldsOf(Class<?> c) {
        int own = 0;
        for (Field f : c.getDeclaredFields()) {
            if (Modifier.isStatic(f.getModifiers())) {
                CHECK.is(f.getName() + " is final", Modifier.isFinal(f.getModifiers()), true);
            } else {
                own++;
            }
        }
        CHECK.is("fields of " + c.getName(), own <= 20, true);
    }

    private static void source(String source) {
        String code = source.replaceAll("(?s)/\\*.*?\\*/", "").replaceAll("//[^\n]*", "")
            .replaceAll("\"[^\"\n]*\"", "\"\"").replaceAll("'[^'\n]'", "' '");
        String[] words = {"throw", "throws", "try", "catch", "finally", "synchronized", "assert", "import", "package", "protected",
            "hashCode", "toString", "lambda", "random", "currentTimeMillis", "nanoTime", "Thread", "extends", "volatile", "native"};
        for (String word : words) {
            CHECK.is("the word " + word, Pattern.compile("\\b" + word + "\\b").matcher(code).find(), false);
        }
        CHECK.is("->", code.contains("->"), false);
        CHECK.is("::", code.contains("::"), false);
        CHECK.is("texts joined by +", Pattern.compile("\"\"\\s*\\+|\\+\\s*\"\"").matcher(code).find(), false);
        CHECK.is("three dimensions", code.contains("[][][]"), false);
        CHECK.is("signs 1 to 127", source.chars().allMatch(c -> c > 0 && c < 128), true);
        Matcher library = Pattern.compile("\\b(Math|Integer|Long|System|Arrays)\\.(\\w+)").matcher(code);
        Set<String> allowed = Set.of("Math.max", "Math.min", "Math.abs", "Math.floorDiv", "Integer.bitCount", "System.arraycopy");
        while (library.find()) {
            CHECK.is(library.group(), allowed.contains(library.group()), true);
        }
        methodLengths(source);
    }

    private static void methodLengths(String source) {
        int start = -1;
        String[] lines = source.split("\n");
        String indent = "";
        for (int k = 0; k < lines.length; k++) {
            Matcher head = Pattern.compile("^( {4}| {8})(?!static final|private static final class)\\S.*\\) \\{$").matcher(lines[k]);
            if (start < 0 && head.matches()) {
                start = k;
                indent = head.group(1);
            } else if (start >= 0 && lines[k].equals(indent + "}")) {
                CHECK.is("length of " + lines[start], k - start < 60, true);
                start = -1;
            }
        }
    }
}
