import java.io.IOException;
import java.lang.reflect.Constructor;
import java.lang.reflect.Field;
import java.lang.reflect.Method;
import java.lang.reflect.Modifier;
import java.nio.file.Files;
import java.nio.file.Path;
import java.util.List;
import java.util.Set;
import java.util.TreeSet;

/** The public face: what the document names, and nothing else that can be seen from outside. */
public final class FaceTest {
    private static final Due due = new Due("FaceTest");

    private static final String[] METHODS = {
        "arm()", "brake()", "catcher(iiii)", "channel(iiii)", "count(ii)", "counter(iiii)", "crossed(i)",
        "filter(ii)", "holds(ii)", "input(ii)", "many(i)", "ofCatcher(ii)", "ofChannel(ii)", "ofCounter(ii)",
        "ofInput(ii)", "outputs(iiii)", "pin(i)", "read(ii)", "record(ii)", "slow(iii)", "source(ii)",
        "taken(i)", "ticks(i)", "top(ii)", "wide(i)"
    };
    private static final String[] CONSTANTS = {"NONE", "OUTSIDE", "STATE", "UNKNOWN"};

    public static void main(String[] args) throws IOException {
        Class<?> face = ChipTimers.class;
        due.holds("the class is public and final",
            Modifier.isPublic(face.getModifiers()) && Modifier.isFinal(face.getModifiers()));
        methods(face);
        fields(face);
        Constructor<?>[] all = face.getDeclaredConstructors();
        due.is("constructors", all.length, 1);
        due.holds("the constructor is public and takes nothing",
            Modifier.isPublic(all[0].getModifiers()) && all[0].getParameterCount() == 0);
        for (Class<?> inside : face.getDeclaredClasses()) {
            due.holds(inside + " is static", Modifier.isStatic(inside.getModifiers()));
            due.holds(inside + " is not public", !Modifier.isPublic(inside.getModifiers()));
        }
        List<String> source = Files.readString(Path.of("src/main/java/ChipTimers.java")).lines().map(String::strip)
            .toList();
        linesOfTheDocument(source);
        titlesOfTheInterface(source);
        due.end();
    }

    /** Parameters bear the document's names, and all stands in the document's order. */
    private static void linesOfTheDocument(List<String> source) throws IOException {
        List<String> face = Document.face();
        due.is("lines of the face: the constants, the constructor and the methods", face.size(), 2 + METHODS.length);
        int last = -1;
        for (String line : face) {
            String wanted = line.endsWith(");") ? line.substring(0, line.length() - 1) + " {" : line;
            int at = source.indexOf(wanted);
            due.holds("the class has, behind what the document tells ahead of it: " + wanted, at > last);
            last = Math.max(last, at);
        }
        for (String line : source) {
            boolean declares = line.startsWith("public ") && !line.startsWith("public final class ");
            due.holds("the document has " + line, !declares || face.contains(line.replace(") {", ");")));
        }
    }

    private static void titlesOfTheInterface(List<String> source) throws IOException {
        due.sentence("Ahead of the calls `counter`, `source`, `count`, `top`, `ofCounter` the interface says: ---- 1 counters. "
            + "Ahead of the calls `input`, `filter`, `ofInput`, `catcher`, `taken`, `ofCatcher` the interface says: "
            + "---- inputs, catchers. Ahead of the calls `ticks` the interface says: ---- 2 ticks. "
            + "Ahead of the calls `channel`, `outputs`, `ofChannel`, `pin`, `brake`, `arm`, `record` the interface says: "
            + "---- 3 channels. Ahead of the calls `holds`, `read`, `wide` the interface says: ---- pairs. "
            + "Ahead of the calls `slow`, `crossed`, `many` the interface says: ---- 4 the other clock.");
        List<Document.Title> titles = Document.titles();
        due.is("titles", titles.size(), 6);
        for (Document.Title title : titles) {
            for (String call : title.calls()) {
                due.holds(title.words() + " stands ahead of " + call, titleOf(call, source).equals("// " + title.words()));
            }
        }
    }

    /** The last title ahead of the call. */
    private static String titleOf(String call, List<String> source) {
        String title = "none";
        for (String line : source) {
            if (line.startsWith("// ---- ")) {
                title = line;
            }
            if (line.startsWith("public int " + call + "(")) {
                return title;
            }
        }
        return "no such call";
    }

    private static void methods(Class<?> face) {
        Set<String> seen = new TreeSet<>();
        Set<String> publicNames = new TreeSet<>();
        for (Method m : face.getDeclaredMethods()) {
            if (!Modifier.isPrivate(m.getModifiers())) {
                seen.add(m.getName() + "(" + "i".repeat(m.getParameterCount()) + ")");
                publicNames.add(m.getName());
                due.holds(m + " is public, not static, and answers an int", Modifier.isPublic(m.getModifiers())
                    && !Modifier.isStatic(m.getModifiers()) && m.getReturnType() == int.class);
                for (Class<?> parameter : m.getParameterTypes()) {
                    due.holds(m + " takes ints", parameter == int.class);
                }
            }
        }
        due.holds("the methods are those of the document: " + seen, seen.equals(new TreeSet<>(Set.of(METHODS))));
        for (Method m : face.getDeclaredMethods()) {
            due.holds("no private method is named " + m.getName(),
                !Modifier.isPrivate(m.getModifiers()) || !publicNames.contains(m.getName()));
        }
    }

    private static void fields(Class<?> face) {
        Set<String> seen = new TreeSet<>();
        for (Field f : face.getDeclaredFields()) {
            int is = f.getModifiers();
            if (!Modifier.isPrivate(is)) {
                seen.add(f.getName());
                due.holds(f + " is a constant int", Modifier.isPublic(is) && Modifier.isStatic(is)
                    && Modifier.isFinal(is) && f.getType() == int.class);
            }
            due.holds(f + " is no static state", !Modifier.isStatic(is) || Modifier.isFinal(is));
        }
        due.holds("the constants are those of the document: " + seen,
            seen.equals(new TreeSet<>(Set.of(CONSTANTS))));
    }
}
