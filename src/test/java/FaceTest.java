import java.lang.reflect.Constructor;
import java.lang.reflect.Field;
import java.lang.reflect.Method;
import java.lang.reflect.Modifier;
import java.util.Arrays;
import java.util.List;
import java.util.Set;
import java.util.TreeSet;
import java.util.stream.Collectors;

/** The public face, just as the document has it, and nothing else to be seen from outside. */
public final class FaceTest {
    private static final List<String> FIRST_CALLS = List.of(
        "public int put(int set, int v)",
        "public int fill(int set, int first, int last)",
        "public int drop(int set, int first, int last)",
        "public int join(int to, int a, int b, int kind)");
    private static final List<String> ASKED = List.of(
        "public int has(int set, int v)",
        "public int count(int set)",
        "public int rank(int set, int v)",
        "public int select(int set, int k)",
        "public int next(int set, int v)",
        "public int before(int set, int v)",
        "public int common(int a, int b)",
        "public int piece(int set, int h, int what)",
        "public int cost(int set)",
        "public int length(int set, int kind)");
    private static final List<String> THE_TAPE = List.of(
        "public int write(int set, int kind)",
        "public int read(int set, int kind)",
        "public int ask(int kind, int k)",
        "public int sign(boolean bit)",
        "public int cut(int n)",
        "public int flip(int i)",
        "public int bit(int i)",
        "public int size()");

    private static final Due DUE = new Due("FaceTest");

    public static void main(String[] args) {
        DUE.test("public final class KeyRows: of no package, above no class and no interface", FaceTest::theClass);
        DUE.test("public static final int NONE = -1, UNKNOWN = -2, OUTSIDE = -3, ROOM = -4", FaceTest::constants);
        DUE.test("public KeyRows(): the one constructor", FaceTest::constructor);
        DUE.test("the methods, each public and of an int, and no other that can be seen", () -> {
            Set<String> face = new TreeSet<>();
            for (List<String> calls : List.of(FIRST_CALLS, ASKED, THE_TAPE)) {
                calls.forEach(call -> face.add(withoutNames(call)));
            }
            DUE.is("how many", face.size(), 22);
            DUE.same("the methods", methods(), face);
        });
        DUE.test("their parameters have the document's names", () -> {
            String source = Source.text();
            for (List<String> calls : List.of(FIRST_CALLS, ASKED, THE_TAPE)) {
                for (String call : calls) {
                    DUE.is(call, source.contains(call + " {") ? 1 : 0, 1);
                }
            }
        });
        DUE.test("Ahead of the calls has, count, .. length the interface says: ---- asked", () ->
            headed("---- asked", FIRST_CALLS, ASKED));
        DUE.test("Ahead of the calls write, read, .. size the interface says: ---- the tape", () ->
            headed("---- the tape", ASKED, THE_TAPE));
        DUE.end();
    }

    private static void theClass() {
        DUE.same("its modifiers", Modifier.toString(KeyRows.class.getModifiers()), "public final");
        DUE.same("its package", KeyRows.class.getPackageName(), "");
        DUE.same("the class above it", KeyRows.class.getSuperclass(), Object.class);
        DUE.is("its interfaces", KeyRows.class.getInterfaces().length, 0);
        DUE.is("its type parameters", KeyRows.class.getTypeParameters().length, 0);
    }

    private static void constants() {
        DUE.is("NONE", KeyRows.NONE, -1);
        DUE.is("UNKNOWN", KeyRows.UNKNOWN, -2);
        DUE.is("OUTSIDE", KeyRows.OUTSIDE, -3);
        DUE.is("ROOM", KeyRows.ROOM, -4);
        DUE.same("the fields that can be seen", Arrays.stream(KeyRows.class.getDeclaredFields())
            .filter(field -> !Modifier.isPrivate(field.getModifiers())).map(Field::toString)
            .collect(Collectors.toCollection(TreeSet::new)),
            new TreeSet<>(Set.of("public static final int KeyRows.NONE", "public static final int KeyRows.UNKNOWN",
                "public static final int KeyRows.OUTSIDE", "public static final int KeyRows.ROOM")));
    }

    private static void constructor() {
        Constructor<?>[] all = KeyRows.class.getDeclaredConstructors();
        DUE.is("constructors", all.length, 1);
        DUE.same("the constructor, without a throws", all[0].toString(), "public KeyRows()");
    }

    /** With all that stands at the method: its modifiers, its types, what it says it throws. */
    private static Set<String> methods() {
        return Arrays.stream(KeyRows.class.getDeclaredMethods())
            .filter(method -> !Modifier.isPrivate(method.getModifiers())).map(Method::toString)
            .collect(Collectors.toCollection(TreeSet::new));
    }

    private static String withoutNames(String call) {
        return call.replaceAll(" \\w+([,)])", "$1").replace(", ", ",").replace("int ", "int KeyRows.");
    }

    private static void headed(String heading, List<String> ahead, List<String> behind) {
        String source = Source.text();
        int at = source.indexOf("// " + heading + "\n");
        DUE.is("it is said", at >= 0 ? 1 : 0, 1);
        for (String call : ahead) {
            DUE.is("it is said behind " + call, source.indexOf(call) < at ? 1 : 0, 1);
        }
        for (String call : behind) {
            DUE.is("it is said ahead of " + call, source.indexOf(call) > at ? 1 : 0, 1);
        }
    }
}
