import java.io.IOException;
import java.nio.file.Files;
import java.nio.file.Path;
import java.util.ArrayList;
import java.util.List;
import java.util.regex.Matcher;
import java.util.regex.Pattern;

/** The document as it lies in ../shared; tests that read it run from the project's folder. */
final class Document {
    private static final Path PLACE = Path.of("../shared/DOC.md");

    private Document() {
    }

    /** The lines of the class that stand under "The public face", without its head and its end. */
    static List<String> face() throws IOException {
        Matcher block = Pattern.compile("(?s)```java\\n.*?\\{\\n(.*?)\\}\\n```").matcher(Files.readString(PLACE));
        List<String> lines = new ArrayList<>();
        if (block.find()) {
            block.group(1).lines().map(String::strip).forEach(lines::add);
        }
        return lines;
    }

    /** A title of the interface and the calls ahead of which it stands. */
    record Title(String words, List<String> calls) {
    }

    static List<Title> titles() throws IOException {
        List<Title> titles = new ArrayList<>();
        Matcher told = Pattern.compile("Ahead of the calls (.*) the interface says: (---- .*)\\.")
            .matcher(Files.readString(PLACE));
        while (told.find()) {
            titles.add(new Title(told.group(2), List.of(told.group(1).replace("`", "").split(", "))));
        }
        return titles;
    }

    /**
     * All words by which something is promised, in one line: no headings, and no declarations, which FaceTest
     * compares with the class itself.
     */
    static String promises() throws IOException {
        String text = Files.readString(PLACE);
        text = text.substring(text.indexOf("## What it is"), text.indexOf("## Not promised"));
        return text.replaceAll("(?s)```java.*?```", "").replaceAll("(?m)^(#.*|```.*)$", "")
            .replaceAll("(?m)^==== \\d ", "").replaceAll("(?m)^`[^`]*\\)`: ", "").replaceAll("\\s+", " ").strip();
    }
}
