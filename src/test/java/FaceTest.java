import java.lang.reflect.Constructor;
import java.lang.reflect.Field;
import java.lang.reflect.Method;
import java.lang.reflect.Modifier;
import java.util.Set;
import java.util.TreeSet;

/** The public face, just as the document has it, and nothing else to be seen from outside. */
public final class FaceTest {
    private static final String[] METHODS = {
        "int put(int,int)", "int fill(int,int,int)", "int drop(int,int,int)", "int join(int,int,int,int)",
        "int has(int,int)", "int count(int)", "int rank(int,int)", "int select(int,int)", "int next(int,int)",
        "int before(int,int)", "int common(int,int)", "int piece(int,int,int)", "int cost(int)",
        "int length(int,int)", "int write(int,int)", "int read(int,int)", "int ask(int,int)",
        "int sign(boolean)", "int cut(int)", "int flip(int)", "int bit(int)", "int size()"};

    public static void main(String[] args) {
        Due due = new Due("FaceTest");
        due.is("KeyRows public", Modifier.isPublic(KeyRows.class.getModifiers()) ? 1 : 0, 1);
        due.is("KeyRows final", Modifier.isFinal(KeyRows.class.getModifiers()) ? 1 : 0, 1);
        due.is("NONE", KeyRows.NONE, -1);
        due.is("UNKNOWN", KeyRows.UNKNOWN, -2);
        due.is("OUTSIDE", KeyRows.OUTSIDE, -3);
        due.is("ROOM", KeyRows.ROOM, -4);
        due.same("the methods", methods(), new TreeSet<>(Set.of(METHODS)));
        due.same("the fields", fields(), new TreeSet<>(Set.of("NONE", "UNKNOWN", "OUTSIDE", "ROOM")));
        Constructor<?>[] all = KeyRows.class.getDeclaredConstructors();
        due.is("constructors", all.length, 1);
        due.is("its parameters", all[0].getParameterCount(), 0);
        due.is("it is public", Modifier.isPublic(all[0].getModifiers()) ? 1 : 0, 1);
        due.end();
    }

    private static Set<String> methods() {
        Set<String> seen = new TreeSet<>();
        for (Method m : KeyRows.class.getDeclaredMethods()) {
            if (!Modifier.isPrivate(m.getModifiers())) {
                StringBuilder text = new StringBuilder(m.getReturnType().getName() + " " + m.getName() + "(");
                for (Class<?> c : m.getParameterTypes()) {
                    text.append(text.charAt(text.length() - 1) == '(' ? "" : ",").append(c.getName());
                }
                seen.add(text.append(")").toString());
            }
        }
        return seen;
    }

    private static Set<String> fields() {
        Set<String> seen = new TreeSet<>();
        for (Field f : KeyRows.class.getDeclaredFields()) {
            if (!Modifier.isPrivate(f.getModifiers())) {
                seen.add(f.getName());
            }
        }
        return seen;
    }
}
