import java.io.IOException;
import java.nio.file.Files;
import java.nio.file.Path;
import java.util.regex.Matcher;
import java.util.regex.Pattern;

/** The rules of LANGUAGE.md that a look at the text can tell; it runs from the project's folder. */
public final class LanguageTest {
    private static final Due due = new Due("LanguageTest");

    private static final String[] RULED_OUT = {
        "\\bimport\\b", "\\bpackage\\b", "\\bthrows?\\b", "\\btry\\b", "\\bcatch\\b", "\\bfinally\\b",
        "\\bsynchronized\\b", "\\bassert\\b", "->", "::", "\\bstatic\\s*\\{", "\\bSystem\\.(?!arraycopy)",
        "\\bMath\\.\\w+Exact\\b", "\\bThread\\b", "\\bRandom\\b", "\\bprotected\\b", "\\bhashCode\\b", "\\btoString\\b"
    };
    private static final int LONGEST_METHOD = 60;

    public static void main(String[] args) throws IOException {
        String source = Files.readString(Path.of("src/main/java/ChipTimers.java"));
        String code = source.replaceAll("(?s)/\\*.*?\\*/", "").replaceAll("//[^\\n]*", "");
        for (String form : RULED_OUT) {
            Matcher found = Pattern.compile(form).matcher(code);
            due.holds("nothing matches " + form, !found.find());
        }
        due.holds("at most twelve classes", Pattern.compile("\\bclass \\w+").matcher(code).results().count() <= 12);
        due.holds("all signs are 1 to 127", source.chars().allMatch(sign -> sign >= 1 && sign <= 127));
        methodsAreShort(code);
        due.end();
    }

    /** A method ends at the first closing brace that stands as far in as its own line. */
    private static void methodsAreShort(String code) {
        Pattern method = Pattern.compile("(?ms)^( +)[\\w \\[\\]]+\\([^;{]*\\) \\{\\n(.*?)^\\1\\}");
        int methods = 0;
        for (Matcher m = method.matcher(code); m.find(); ) {
            methods++;
            long lines = m.group(2).lines().count();
            due.holds("this method has at most " + LONGEST_METHOD + " lines: " + m.group().lines().findFirst().get(),
                lines <= LONGEST_METHOD);
        }
        due.holds("methods were found", methods > 25);
    }
}
