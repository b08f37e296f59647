import java.io.IOException;
import java.nio.file.Files;
import java.nio.file.Path;
import java.util.ArrayList;
import java.util.List;
import java.util.TreeSet;
import java.util.regex.Matcher;
import java.util.regex.Pattern;
import java.util.stream.Stream;

/** The list of sentences is the document's, each has its tests, and every test method there is is run. */
public final class SentencesTest {
    private static final Check CHECK = new Check("SentencesTest");
    private static final Path DOCUMENT = Path.of("../shared/DOC.md");
    private static final Path LIST = Path.of("src/test/SENTENCES.md");
    private static final Path TESTS = Path.of("src/test/java");

    public static void main(String[] args) throws IOException {
        List<String> pieces = new ArrayList<>();
        List<String> tests = new ArrayList<>();
        read(pieces, tests);
        wholeDocument(pieces);
        for (int k = 0; k < pieces.size(); k++) {
            testsOf(pieces.get(k), tests.get(k));
        }
        everyMethodIsRun();
        CHECK.finish();
    }

    /** A line "- piece", and the line of its tests behind it. */
    private static void read(List<String> pieces, List<String> tests) throws IOException {
        for (String line : Files.readAllLines(LIST)) {
            if (line.startsWith("- ")) {
                CHECK.is("tests ahead of: " + line, tests.size(), pieces.size());
                pieces.add(line.substring(2));
            } else if (line.startsWith("  ")) {
                tests.add(line.trim());
            }
        }
        CHECK.is("tests of each piece", tests.size(), pieces.size());
    }

    private static void wholeDocument(List<String> pieces) throws IOException {
        if (!Files.exists(DOCUMENT)) {
            System.out.println("SentencesTest: no " + DOCUMENT + ", the list is not held against it");
            return;
        }
        String document = Files.readString(DOCUMENT)
            .replaceAll("(?s)```java\n.*?\n```", "")
            .replaceAll("(?m)^(#|```).*$", "");
        String told = document.replaceAll("\\s+", "");
        String listed = String.join("", pieces).replaceAll("\\s+", "");
        int alike = 0;
        while (alike < Math.min(told.length(), listed.length()) && told.charAt(alike) == listed.charAt(alike)) {
            alike++;
        }
        String rest = told.substring(alike, Math.min(told.length(), alike + 60));
        CHECK.is("the list goes on with the document's " + rest, listed.equals(told), true);
    }

    private static void testsOf(String piece, String names) throws IOException {
        if (names.startsWith("(")) {
            return;
        }
        for (String name : names.split(" ")) {
            String[] parts = name.split("\\.");
            Path file = TESTS.resolve(parts[0] + ".java");
            boolean there = Files.exists(file) && parts[0].endsWith("Test");
            if (there && parts.length > 1) {
                there = Files.readString(file).contains("static void " + parts[1] + "()");
            }
            CHECK.is(name + " for: " + piece, there, true);
        }
    }

    private static void everyMethodIsRun() throws IOException {
        TreeSet<Path> files = new TreeSet<>();
        try (Stream<Path> all = Files.list(TESTS)) {
            all.filter(file -> file.toString().endsWith("Test.java")).forEach(files::add);
        }
        CHECK.is("tests", files.size() > 20, true);
        for (Path file : files) {
            String source = Files.readString(file);
            Matcher method = Pattern.compile("static void (\\w+)\\(\\)").matcher(source);
            while (method.find()) {
                boolean run = Pattern.compile("\\n {8,}" + method.group(1) + "\\(\\);").matcher(source).find();
                CHECK.is(file.getFileName() + " runs " + method.group(1), run, true);
            }
        }
    }
}
