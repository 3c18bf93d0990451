import java.io.IOException;
import java.nio.file.Files;
import java.nio.file.Path;
import java.util.ArrayList;
import java.util.BitSet;
import java.util.List;
import java.util.regex.Matcher;
import java.util.regex.Pattern;
import java.util.stream.Stream;

/** Every sentence of the document is quoted by a test, and what a test quotes stands in the document. */
public final class SentencesTest {
    private static final Due due = new Due("SentencesTest");
    private static final Path TESTS = Path.of("src/test/java");
    private static final String TEXT = "\"(?:[^\"\\\\]|\\\\.)*\"";
    private static final Pattern QUOTE = Pattern.compile("sentence\\((\\s*" + TEXT + "(?:\\s*\\+\\s*" + TEXT + ")*)\\)");
    /** Stands in a quote for words that were left out; two dots alone are the document's own sign. */
    private static final String GAP = "\\[\\.\\.\\]";

    public static void main(String[] args) throws IOException {
        String document = Document.promises();
        due.holds("the document was found", document.length() > 5000);
        BitSet quoted = new BitSet();
        for (Path test : tests()) {
            for (String quote : quotes(Files.readString(test))) {
                for (String piece : quote.split(GAP)) {
                    mark(document, piece.strip(), quoted, test.getFileName() + " quotes \"" + piece + '"');
                }
            }
        }
        for (String rest : unquoted(document, quoted)) {
            due.holds("a test quotes \"" + rest + '"', false);
        }
        due.end();
    }

    private static List<Path> tests() throws IOException {
        try (Stream<Path> all = Files.list(TESTS)) {
            return all.filter(path -> path.toString().endsWith("Test.java")).sorted().toList();
        }
    }

    private static List<String> quotes(String source) {
        List<String> found = new ArrayList<>();
        for (Matcher quote = QUOTE.matcher(source); quote.find(); ) {
            StringBuilder words = new StringBuilder();
            for (Matcher text = Pattern.compile(TEXT).matcher(quote.group(1)); text.find(); ) {
                words.append(text.group(), 1, text.group().length() - 1);
            }
            found.add(words.toString());
        }
        return found;
    }

    /** Words that stand at several places do not tell which one is tested, so they count for none. */
    private static void mark(String document, String piece, BitSet quoted, String told) {
        int at = document.indexOf(piece);
        due.holds(told + ", which stands in the document", at >= 0);
        if (at >= 0 && document.indexOf(piece, at + 1) < 0) {
            quoted.set(at, at + piece.length());
        }
    }

    private static List<String> unquoted(String document, BitSet quoted) {
        List<String> rests = new ArrayList<>();
        int from = quoted.nextClearBit(0);
        while (from < document.length()) {
            int next = quoted.nextSetBit(from);
            int to = next < 0 ? document.length() : next;
            String rest = document.substring(from, to);
            if (rest.matches(".*\\w.*")) {
                rests.add(rest.strip());
            }
            from = quoted.nextClearBit(to);
        }
        return rests;
    }
}
