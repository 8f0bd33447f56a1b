import java.lang.reflect.Executable;
import java.lang.reflect.Field;
import java.lang.reflect.Method;
import java.lang.reflect.Modifier;
import java.nio.file.Path;
import java.util.ArrayList;
import java.util.Arrays;
import java.util.List;
import java.util.Set;
import java.util.regex.Matcher;
import java.util.regex.Pattern;
import java.util.stream.Collectors;

/** The rules of LANGUAGE.md that can be seen in the source, or in the compiled class. */
public final class LanguageTest {
    private static final Due DUE = new Due("LanguageTest");
    private static final Class<?>[] CLASSES = KeyRows.class.getNestMembers();
    private static final Set<String> MAY_BE_IMPORTED = Set.of("java.util.ArrayList", "java.util.List",
        "java.util.Arrays", "java.util.Iterator", "java.util.NoSuchElementException");
    private static final Set<String> MAY_BE_THROWN = Set.of("IllegalStateException", "IllegalArgumentException",
        "IndexOutOfBoundsException", "ArithmeticException", "UnsupportedOperationException",
        "NoSuchElementException", "RuntimeException");
    private static final Pattern LIBRARY =
        Pattern.compile("(Integer|Long|Math)\\.\\w+|System\\.arraycopy|Arrays\\.(copyOf|copyOfRange|fill)|List\\.of");
    private static final int LONGEST_METHOD = 60;
    private static final Pattern METHOD_HEAD = Pattern.compile("( {4}| {8})[a-zA-Z].*\\(.*\\) \\{");

    public static void main(String[] args) {
        ruleOne();
        DUE.test("rule 2: no class that is local, no lambda, no method reference", LanguageTest::noLambdas);
        DUE.test("rules 3 and 4: no library but what is listed", LanguageTest::library);
        DUE.test("rule 5: static fields are final, of numbers, texts and rows", LanguageTest::staticFields);
        DUE.test("rule 6: exceptions", LanguageTest::exceptions);
        ruleEleven();
        DUE.test("rule 13: no clock, no randomness, no file, network, thread or environment", () -> {
            for (String word : List.of("nanoTime", "currentTimeMillis", "Math.random", "Random", "Thread", "Process",
                "Runtime", "getenv", "getProperty", "identityHashCode")) {
                hasNot(word);
            }
        });
        DUE.end();
    }

    private static boolean hasWord(String word) {
        return Pattern.compile("\\b" + word + "\\b").matcher(Source.code()).find();
    }

    private static void hasNot(String word) {
        DUE.is("the word " + word + " is there", hasWord(word) ? 1 : 0, 0);
    }

    private static void ruleOne() {
        DUE.test("rule 1: one file, without a package line", () -> {
            hasNot("package");
            String[] files = Path.of("src/main/java").toFile().list();
            DUE.same("src/main/java", Arrays.asList(files == null ? new String[0] : files), List.of("KeyRows.java"));
        });
        DUE.test("rule 1: classes inside are static, and private or package-visible", () -> {
            for (Class<?> inside : KeyRows.class.getDeclaredClasses()) {
                int modifiers = inside.getModifiers();
                DUE.is(inside + " is static", Modifier.isStatic(modifiers) ? 1 : 0, 1);
                DUE.is(inside + " is public or protected",
                    Modifier.isPublic(modifiers) || Modifier.isProtected(modifiers) ? 1 : 0, 0);
            }
        });
        DUE.test("rule 1: no private method bears the name of a public one", () -> {
            Set<String> face = Arrays.stream(KeyRows.class.getDeclaredMethods())
                .filter(method -> Modifier.isPublic(method.getModifiers())).map(Method::getName)
                .collect(Collectors.toSet());
            for (Class<?> each : CLASSES) {
                for (Method method : each.getDeclaredMethods()) {
                    if (Modifier.isPrivate(method.getModifiers())) {
                        DUE.is(method + " has a name of the face", face.contains(method.getName()) ? 1 : 0, 0);
                    }
                }
            }
        });
    }

    private static void noLambdas() {
        for (Class<?> each : CLASSES) {
            DUE.is(each + " is local", each.isLocalClass() ? 1 : 0, 0);
        }
        for (String line : Source.code().split("\n")) {
            boolean ofSwitch = line.trim().startsWith("case ") || line.trim().startsWith("default ");
            DUE.is("a lambda in: " + line, line.contains("->") && !ofSwitch ? 1 : 0, 0);
            DUE.is("a method reference in: " + line, line.contains("::") ? 1 : 0, 0);
        }
    }

    private static void library() {
        Matcher imports = Pattern.compile("import ([^;]*);").matcher(Source.code());
        while (imports.find()) {
            DUE.is("import " + imports.group(1), MAY_BE_IMPORTED.contains(imports.group(1)) ? 1 : 0, 1);
        }
        Set<String> own = Arrays.stream(CLASSES).map(Class::getSimpleName).collect(Collectors.toSet());
        Matcher named = Pattern.compile("(?<![.\\w])([A-Z][a-z]\\w*)\\.(\\w+)").matcher(Source.code());
        while (named.find()) {
            boolean isListed = own.contains(named.group(1)) || LIBRARY.matcher(named.group()).matches();
            DUE.is(named.group() + " is listed", isListed ? 1 : 0, 1);
            DUE.is(named.group() + " ends in Exact", named.group().endsWith("Exact") ? 1 : 0, 0);
        }
        Matcher others = Pattern.compile("\\bjavax?\\.(?!util\\.)").matcher(Source.code());
        DUE.is("a package that is not java.util", others.find() ? 1 : 0, 0);
    }

    private static void staticFields() {
        Set<Class<?>> types = Set.of(int.class, long.class, boolean.class, char.class, String.class, int[].class,
            long[].class, char[].class, byte[].class);
        for (Class<?> each : CLASSES) {
            for (Field field : each.getDeclaredFields()) {
                if (Modifier.isStatic(field.getModifiers()) && !each.isEnum()) {
                    DUE.is(field + " is final", Modifier.isFinal(field.getModifiers()) ? 1 : 0, 1);
                    DUE.is(field + " may be static", types.contains(field.getType()) ? 1 : 0, 1);
                }
            }
        }
        DUE.is("a static block", Pattern.compile("\\bstatic\\s*\\{").matcher(Source.code()).find() ? 1 : 0, 0);
    }

    private static void exceptions() {
        for (String word : List.of("finally", "synchronized", "assert", "getMessage", "hashCode")) {
            hasNot(word);
        }
        Matcher thrown = Pattern.compile("\\bthrow\\s+(new\\s+)?(\\w+)").matcher(Source.code());
        while (thrown.find()) {
            DUE.is(thrown.group() + " may be thrown", MAY_BE_THROWN.contains(thrown.group(2)) ? 1 : 0, 1);
        }
        DUE.is("try with resources", Pattern.compile("\\btry\\s*\\(").matcher(Source.code()).find() ? 1 : 0, 0);
    }

    private static void ruleEleven() {
        DUE.test("rule 11: at most seven parameters, some twelve classes, some twenty fields", () -> {
            DUE.is("too many classes", CLASSES.length > 12 ? CLASSES.length : 0, 0);
            for (Class<?> each : CLASSES) {
                List<Executable> all = new ArrayList<>(List.of(each.getDeclaredMethods()));
                all.addAll(List.of(each.getDeclaredConstructors()));
                for (Executable one : all) {
                    DUE.is("too many parameters of " + one, one.getParameterCount() > 7 ? 1 : 0, 0);
                }
                long fields = Arrays.stream(each.getDeclaredFields())
                    .filter(field -> !Modifier.isStatic(field.getModifiers())).count();
                DUE.is("too many fields of " + each, fields > 20 ? fields : 0, 0);
            }
        });
        DUE.test("rule 11: methods of at most some sixty lines", LanguageTest::methodLengths);
    }

    /** The source is indented, so a method ends with the first brace that stands just below its head. */
    private static void methodLengths() {
        String[] lines = Source.text().split("\n");
        for (int i = 0; i < lines.length; i++) {
            Matcher head = METHOD_HEAD.matcher(lines[i]);
            if (head.matches()) {
                int end = i;
                while (end < lines.length && !lines[end].equals(head.group(1) + "}")) {
                    end++;
                }
                DUE.is("lines too many of" + lines[i], Math.max(0, end - i + 1 - LONGEST_METHOD), 0);
            }
        }
    }
}
