import java.lang.reflect.Constructor;
import java.lang.reflect.Field;
import java.lang.reflect.Method;
import java.lang.reflect.Modifier;
import java.util.Set;
import java.util.TreeSet;

/** The public face, just as the document has it, and nothing else to be seen from outside. */
public final class FaceTest {
    private static final String[] METHODS = {
        "int put(int,int)", "int fill(int,int,int)", "int drop(int,int,int)", "int join(int,int,int,int)",
        "int has(int,int)", "int count(int)", "int rank(int,int)", "int select(int,int)", "int next(int,int)",
        "int before(int,int)", "int common(int,int)", "int piece(int,int,int)", "int cost(int)",
        "int length(int,int)", "int write(int,int)", "int read(int,int)", "int ask(int,int)",
        "int sign(boolean)", "int cut(int)", "int flip(int)", "int bit(int)", "int size()"};

    private static final Due DUE = new Due("FaceTest");

    public static void main(String[] args) {
        DUE.test("the class is public and final", () -> {
            DUE.is("public", Modifier.isPublic(KeyRows.class.getModifiers()) ? 1 : 0, 1);
            DUE.is("final", Modifier.isFinal(KeyRows.class.getModifiers()) ? 1 : 0, 1);
        });
        DUE.test("NONE = -1, UNKNOWN = -2, OUTSIDE = -3, ROOM = -4", () -> {
            DUE.is("NONE", KeyRows.NONE, -1);
            DUE.is("UNKNOWN", KeyRows.UNKNOWN, -2);
            DUE.is("OUTSIDE", KeyRows.OUTSIDE, -3);
            DUE.is("ROOM", KeyRows.ROOM, -4);
            DUE.same("the constants", fields(), new TreeSet<>(Set.of("NONE", "UNKNOWN", "OUTSIDE", "ROOM")));
        });
        DUE.test("the methods", () -> DUE.same("the methods", methods(), new TreeSet<>(Set.of(METHODS))));
        DUE.test("one constructor, public, of nothing", () -> {
            Constructor<?>[] all = KeyRows.class.getDeclaredConstructors();
            DUE.is("constructors", all.length, 1);
            DUE.is("its parameters", all[0].getParameterCount(), 0);
            DUE.is("it is public", Modifier.isPublic(all[0].getModifiers()) ? 1 : 0, 1);
        });
        DUE.end();
    }

    private static Set<String> methods() {
        Set<String> seen = new TreeSet<>();
        for (Method m : KeyRows.class.getDeclaredMethods()) {
            if (!Modifier.isPrivate(m.getModifiers())) {
                StringBuilder text = new StringBuilder(m.getReturnType().getName() + " " + m.getName() + "(");
                for (Class<?> c : m.getParameterTypes()) {
                    text.append(text.charAt(text.length() - 1) == '(' ? "" : ",").append(c.getName());
                }
                seen.add(text.append(")").toString());
            }
        }
        return seen;
    }

    private static Set<String> fields() {
        Set<String> seen = new TreeSet<>();
        for (Field f : KeyRows.class.getDeclaredFields()) {
            if (!Modifier.isPrivate(f.getModifiers())) {
                seen.add(f.getName());
            }
        }
        return seen;
    }
}
