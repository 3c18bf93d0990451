import java.lang.reflect.Constructor;
import java.lang.reflect.Field;
import java.lang.reflect.Method;
import java.lang.reflect.Modifier;
import java.util.Set;
import java.util.TreeSet;

/** The public face: what the document names, and nothing else that can be seen from outside. */
public final class FaceTest {
    private static final Due due = new Due("FaceTest");

    private static final String[] METHODS = {
        "arm()", "brake()", "catcher(iiii)", "channel(iiii)", "count(ii)", "counter(iiii)", "crossed(i)",
        "filter(ii)", "holds(ii)", "input(ii)", "many(i)", "ofCatcher(ii)", "ofChannel(ii)", "ofCounter(ii)",
        "ofInput(ii)", "outputs(iiii)", "pin(i)", "read(ii)", "record(ii)", "slow(iii)", "source(ii)",
        "taken(i)", "ticks(i)", "top(ii)", "wide(i)"
    };
    private static final String[] CONSTANTS = {"NONE", "OUTSIDE", "STATE", "UNKNOWN"};

    public static void main(String[] args) {
        Class<?> face = ChipTimers.class;
        due.holds("the class is public and final",
            Modifier.isPublic(face.getModifiers()) && Modifier.isFinal(face.getModifiers()));
        methods(face);
        fields(face);
        Constructor<?>[] all = face.getDeclaredConstructors();
        due.is("constructors", all.length, 1);
        due.holds("the constructor is public and takes nothing",
            Modifier.isPublic(all[0].getModifiers()) && all[0].getParameterCount() == 0);
        for (Class<?> inside : face.getDeclaredClasses()) {
            due.holds(inside + " is static", Modifier.isStatic(inside.getModifiers()));
            due.holds(inside + " is not public", !Modifier.isPublic(inside.getModifiers()));
        }
        due.end();
    }

    private static void methods(Class<?> face) {
        Set<String> seen = new TreeSet<>();
        Set<String> publicNames = new TreeSet<>();
        for (Method m : face.getDeclaredMethods()) {
            if (!Modifier.isPrivate(m.getModifiers())) {
                seen.add(m.getName() + "(" + "i".repeat(m.getParameterCount()) + ")");
                publicNames.add(m.getName());
                due.holds(m + " is public, not static, and answers an int", Modifier.isPublic(m.getModifiers())
                    && !Modifier.isStatic(m.getModifiers()) && m.getReturnType() == int.class);
                for (Class<?> parameter : m.getParameterTypes()) {
                    due.holds(m + " takes ints", parameter == int.class);
                }
            }
        }
        due.holds("the methods are those of the document: " + seen, seen.equals(new TreeSet<>(Set.of(METHODS))));
        for (Method m : face.getDeclaredMethods()) {
            due.holds("no private method is named " + m.getName(),
                !Modifier.isPrivate(m.getModifiers()) || !publicNames.contains(m.getName()));
        }
    }

    private static void fields(Class<?> face) {
        Set<String> seen = new TreeSet<>();
        for (Field f : face.getDeclaredFields()) {
            int is = f.getModifiers();
            if (!Modifier.isPrivate(is)) {
                seen.add(f.getName());
                due.holds(f + " is a constant int", Modifier.isPublic(is) && Modifier.isStatic(is)
                    && Modifier.isFinal(is) && f.getType() == int.class);
            }
            due.holds(f + " is no static state", !Modifier.isStatic(is) || Modifier.isFinal(is));
        }
        due.holds("the constants are those of the document: " + seen,
            seen.equals(new TreeSet<>(Set.of(CONSTANTS))));
    }
}
