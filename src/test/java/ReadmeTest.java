import java.io.IOException;
import java.nio.file.Files;
import java.nio.file.Path;
import java.util.Arrays;
import java.util.List;
import java.util.Map;
import java.util.regex.Matcher;
import java.util.regex.Pattern;

/** What README.md says of the class holds, and it says what it must; runs from the project's folder. */
public final class ReadmeTest {
    private static final Due due = new Due("ReadmeTest");
    private static final Map<String, Integer> CONSTANTS = Map.of("UNKNOWN", ChipTimers.UNKNOWN,
        "OUTSIDE", ChipTimers.OUTSIDE, "STATE", ChipTimers.STATE, "NONE", ChipTimers.NONE);

    public static void main(String[] args) throws IOException {
        String page = Files.readString(Path.of("README.md"));
        examples(page);
        everyCallIsTold(page);
        answersBelowZeroAreTold(page);
        limitOfCallsIsTold(page);
        waysToRunTheTests(page);
        testsThatAreNamed(page);
        due.end();
    }

    private static void examples(String page) {
        int blocks = 0;
        for (Matcher block = Pattern.compile("(?s)```java\\n(.*?)```").matcher(page); block.find(); ) {
            blocks++;
            ChipTimers timers = null;
            for (String line : block.group(1).lines().toList()) {
                if (line.equals("ChipTimers timers = new ChipTimers();")) {
                    timers = new ChipTimers();
                } else {
                    example(timers, line);
                }
            }
        }
        due.is("examples", blocks, 3);
    }

    private static void example(ChipTimers timers, String line) {
        Matcher call = Pattern.compile("timers\\.(\\w+)\\(([-0-9, ]*)\\);( +// answers (\\w+).*)?").matcher(line);
        if (!call.matches() || timers == null) {
            due.holds("this line can be run: " + line, false);
            return;
        }
        int[] numbers = Arrays.stream(call.group(2).split(", *")).filter(text -> !text.isEmpty())
            .mapToInt(Integer::parseInt).toArray();
        int answer = Calls.on(timers, call.group(1), Arrays.copyOf(numbers, 4));
        String told = call.group(4);
        if (told != null) {
            due.is(line, answer, CONSTANTS.containsKey(told) ? CONSTANTS.get(told) : Integer.parseInt(told));
        }
    }

    /** By the names that the document gives its numbers. */
    private static void everyCallIsTold(String page) throws IOException {
        int calls = 0;
        for (String line : Document.face()) {
            if (line.startsWith("public int ")) {
                calls++;
                String call = line.replace("public int ", "").replace("int ", "").replace(";", "");
                due.holds("the page has a row of " + call, page.contains("\n| `" + call + "` |"));
            }
        }
        due.is("calls", calls, Calls.NAMES.length);
    }

    private static void answersBelowZeroAreTold(String page) {
        CONSTANTS.forEach((name, value) -> due.holds("the page has a row of " + name + " with its value",
            page.contains("\n| `" + name + "` | " + value + " |")));
        due.holds("the page says that a refused call changes nothing", page.contains("A refused call changes nothing."));
        due.holds("the page says how an object is made", page.contains("### Make an object"));
    }

    private static void limitOfCallsIsTold(String page) {
        due.holds("the page says how many calls there are",
            page.contains("An object is used for at most 512 calls after it has been made; what later calls answer is free."));
    }

    private static void waysToRunTheTests(String page) {
        due.holds("the page says how all tests are run", page.contains("```sh\n.ci/run\n```"));
        due.holds(".ci/run can be run", Files.isExecutable(Path.of(".ci/run")));
        int alone = 0;
        for (Matcher line = Pattern.compile("(?m)^javac (.*) && java -cp \\S+ (\\w+)$").matcher(page); line.find(); ) {
            alone++;
            List<String> sources = Arrays.stream(line.group(1).split(" ")).filter(word -> word.endsWith(".java")).toList();
            for (String source : sources) {
                due.holds("there is a " + source, Files.isRegularFile(Path.of(source)));
            }
            due.holds("the line compiles what it runs: " + line.group(),
                sources.stream().anyMatch(source -> source.endsWith("/" + line.group(2) + ".java")));
        }
        due.is("ways to run one test alone", alone, 2);
    }

    private static void testsThatAreNamed(String page) {
        for (Matcher name = Pattern.compile("`(\\w+Test)`").matcher(page); name.find(); ) {
            due.holds("there is a " + name.group(1), Files.exists(Path.of("src/test/java", name.group(1) + ".java")));
        }
    }
}
