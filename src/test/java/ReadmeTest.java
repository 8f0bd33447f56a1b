import java.io.IOException;
import java.io.UncheckedIOException;
import java.lang.reflect.Method;
import java.nio.file.Files;
import java.nio.file.Path;
import java.util.ArrayList;
import java.util.Arrays;
import java.util.Comparator;
import java.util.List;
import java.util.Set;
import java.util.TreeSet;
import java.util.regex.Matcher;
import java.util.regex.Pattern;
import java.util.stream.Collectors;
import java.util.stream.Stream;

/** README.md: the lines of its examples are run, in their order, and answer what their comments begin with. */
public final class ReadmeTest {
    private static final Due DUE = new Due("ReadmeTest");
    private static final Path README = Path.of("README.md");
    private static final String MAKING = "KeyRows rows = new KeyRows();";
    private static final Pattern CALL =
        Pattern.compile("rows\\.(\\w+)\\(([^()]*)\\); +// (-?\\d+|KeyRows\\.[A-Z]+)(: .*)?");
    private static final Pattern ROW = Pattern.compile("\\| `(\\w+Test)` \\| .* \\|");
    // The script under which this test runs.
    private static final String ALL_TESTS = ".ci/run";

    private KeyRows rows = null;
    private final Set<String> called = new TreeSet<>();

    public static void main(String[] args) {
        DUE.test("how to use the class: each line answers what its comment says", () -> new ReadmeTest().runExamples());
        DUE.test("how to compile it, how to run its tests: each line ends well", ReadmeTest::runCommands);
        DUE.test("the table has every test of the project, and no other", () ->
            DUE.same("the tests of the table", testsOfTable(), testsOfProject()));
        DUE.end();
    }

    private static List<String> readme() {
        try {
            return Files.readAllLines(README);
        } catch (IOException e) {
            throw new UncheckedIOException(e);
        }
    }

    /** The lines of all blocks of one language. */
    private static List<String> examples(String language) {
        List<String> lines = new ArrayList<>();
        String open = "";
        for (String line : readme()) {
            if (line.startsWith("```")) {
                open = line.substring(3);
            } else if (open.equals(language)) {
                lines.add(line);
            }
        }
        return lines;
    }

    private void runExamples() {
        for (String line : examples("java")) {
            if (line.equals(MAKING)) {
                rows = new KeyRows();
            } else {
                runCall(line);
            }
        }
        DUE.same("the calls of the examples", called, Arrays.stream(KeyRows.class.getDeclaredMethods())
            .filter(m -> java.lang.reflect.Modifier.isPublic(m.getModifiers())).map(Method::getName)
            .collect(Collectors.toCollection(TreeSet::new)));
    }

    private void runCall(String line) {
        Matcher parts = CALL.matcher(line);
        DUE.is("a call and its answer: " + line, parts.matches() ? 1 : 0, 1);
        if (parts.matches()) {
            called.add(parts.group(1));
            DUE.is(line, answer(parts.group(1), parts.group(2)), due(parts.group(3)));
        }
    }

    private int answer(String name, String arguments) {
        String[] texts = arguments.isEmpty() ? new String[0] : arguments.split(", ");
        Object[] values = new Object[texts.length];
        Class<?>[] types = new Class<?>[texts.length];
        for (int i = 0; i < texts.length; i++) {
            boolean isBit = texts[i].equals("true") || texts[i].equals("false");
            types[i] = isBit ? boolean.class : int.class;
            values[i] = isBit ? (Object) Boolean.valueOf(texts[i]) : (Object) Integer.valueOf(texts[i]);
        }
        try {
            return (Integer) KeyRows.class.getMethod(name, types).invoke(rows, values);
        } catch (ReflectiveOperationException e) {
            throw new IllegalStateException(name + "(" + arguments + ")", e);
        }
    }

    private static int due(String text) {
        try {
            return text.startsWith("KeyRows.")
                ? KeyRows.class.getField(text.substring("KeyRows.".length())).getInt(null) : Integer.parseInt(text);
        } catch (ReflectiveOperationException e) {
            throw new IllegalStateException(text, e);
        }
    }

    /** In a copy, so that what the lines make does not stay in the project. */
    private static void runCommands() {
        try {
            Path copy = Files.createTempDirectory("readme");
            try {
                copyTo(copy.resolve("src"));
                for (String line : examples("sh")) {
                    if (line.equals(ALL_TESTS)) {
                        DUE.is(line + " can be run", Files.isExecutable(Path.of(ALL_TESTS)) ? 1 : 0, 1);
                    } else {
                        DUE.is(line, exitOf(line, copy), 0);
                    }
                }
            } finally {
                remove(copy);
            }
        } catch (IOException e) {
            throw new UncheckedIOException(e);
        }
    }

    private static void copyTo(Path target) throws IOException {
        Path source = Path.of("src");
        try (Stream<Path> all = Files.walk(source)) {
            for (Path from : all.collect(Collectors.toList())) {
                Files.copy(from, target.resolve(source.relativize(from)));
            }
        }
    }

    private static void remove(Path folder) throws IOException {
        try (Stream<Path> all = Files.walk(folder)) {
            for (Path path : all.sorted(Comparator.reverseOrder()).collect(Collectors.toList())) {
                Files.delete(path);
            }
        }
    }

    private static int exitOf(String line, Path folder) throws IOException {
        try {
            return new ProcessBuilder("sh", "-c", line).directory(folder.toFile())
                .redirectError(ProcessBuilder.Redirect.INHERIT).redirectOutput(ProcessBuilder.Redirect.DISCARD)
                .start().waitFor();
        } catch (InterruptedException e) {
            throw new IllegalStateException(line, e);
        }
    }

    private static Set<String> testsOfTable() {
        return readme().stream().map(ROW::matcher).filter(Matcher::matches).map(row -> row.group(1))
            .collect(Collectors.toCollection(TreeSet::new));
    }

    private static Set<String> testsOfProject() {
        String[] files = Path.of("src/test/java").toFile().list((folder, name) -> name.endsWith("Test.java"));
        return Arrays.stream(files == null ? new String[0] : files).map(name -> name.replace(".java", ""))
            .collect(Collectors.toCollection(TreeSet::new));
    }
}
