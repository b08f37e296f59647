import java.io.IOException;
import java.lang.reflect.Method;
import java.nio.file.Files;
import java.nio.file.Path;
import java.util.regex.Matcher;
import java.util.regex.Pattern;

/** What README.md shows holds: its calls answer what it says behind them, its house is one. */
public final class ReadmeTest {
    private static final Check CHECK = new Check("ReadmeTest");

    public static void main(String[] args) throws Exception {
        String readme = Files.readString(Path.of("README.md"));
        calls(block(readme, "java"));
        CHECK.made(block(readme, "text"));
        everyCallIsNamed(readme);
        CHECK.is("how the tests are run", block(readme, "sh").trim().equals(".ci/run"), true);
        CHECK.is("it is there and can be run", Files.isExecutable(Path.of(".ci/run")), true);
        CHECK.finish();
    }

    private static String block(String readme, String kind) throws IOException {
        Matcher found = Pattern.compile("(?s)```" + kind + "\n(.*?)```").matcher(readme);
        CHECK.is("a block of " + kind, found.find(), true);
        return found.group(1);
    }

    /** Each line is a call and, behind //, its answer. */
    private static void calls(String block) throws ReflectiveOperationException {
        FireDrill x = new FireDrill();
        Matcher line = Pattern.compile("x\\.(\\w+)\\((.*?)\\); +// (-?\\d+|true|false):").matcher(block);
        int calls = 0;
        while (line.find()) {
            String[] told = line.group(2).isEmpty() ? new String[0] : line.group(2).split(", ");
            Object[] numbers = new Object[told.length];
            Class<?>[] types = new Class<?>[told.length];
            for (int k = 0; k < told.length; k++) {
                numbers[k] = Integer.decode(told[k]);
                types[k] = int.class;
            }
            Method call = FireDrill.class.getMethod(line.group(1), types);
            String got = String.valueOf(call.invoke(x, numbers));
            CHECK.is(line.group() + " answered " + got, got.equals(line.group(3)), true);
            calls++;
        }
        CHECK.is("lines with a call", calls, block.split("\n").length - 1);
    }

    private static void everyCallIsNamed(String readme) {
        for (Method call : FireDrill.class.getDeclaredMethods()) {
            if (java.lang.reflect.Modifier.isPublic(call.getModifiers())) {
                CHECK.is("README.md names " + call.getName(), readme.contains("`" + call.getName() + "`"), true);
            }
        }
    }
}
