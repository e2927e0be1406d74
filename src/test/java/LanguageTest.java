import java.io.IOException;
import java.nio.file.Files;
import java.nio.file.Path;
import java.util.List;
import java.util.regex.Matcher;
import java.util.regex.Pattern;

/** Those rules of LANGUAGE.md that a look at the text of the class can hold it to; it runs in the project's folder. */
public final class LanguageTest {
    private static final Path SOURCE = Path.of("src", "main", "java", "ByHand.java");
    private static final String[] FORBIDDEN = {"throw", "throws", "try", "catch", "finally", "synchronized", "assert",
        "instanceof", "import", "package", "Object", "equals", "hashCode", "toString", "Random", "Thread", "File",
        "nanoTime", "currentTimeMillis", "getenv", "getProperty", "var", "this", "protected", "volatile", "native",
        "\\w+Exact", "lambda", "Class"};

    public static void main(String[] args) throws IOException {
        String code = withoutComments(Files.readString(SOURCE));
        for (String word : FORBIDDEN) {
            Check.due("how often " + word + " stands in it", count(code, "\\b" + word + "\\b"), 0);
        }
        Check.due("arrows", count(code, "->"), 0);
        Check.due("method references", count(code, "::"), 0);
        Check.due("texts", count(code, "\""), 0);
        Check.due("other calls of System", count(code, "System\\.(?!arraycopy\\()"), 0);
        Check.due("other calls of Math", count(code, "Math\\.(?!(min|max)\\()"), 0);
        Check.due("other calls of Integer", count(code, "Integer\\.(?!bitCount\\()"), 0);
        rowsAreMadeOnce(code);
        methodsAreShort(Files.readAllLines(SOURCE));
        Check.end("LanguageTest");
    }

    private static String withoutComments(String text) {
        return text.replaceAll("(?s)/\\*.*?\\*/", "").replaceAll("//[^\n]*", "");
    }

    private static int count(String code, String pattern) {
        Matcher found = Pattern.compile(pattern).matcher(code);
        int count = 0;
        while (found.find()) {
            count++;
        }
        return count;
    }

    /** All calls of a run share one room: what is made stands in the fields, so no call makes anything. */
    private static void rowsAreMadeOnce(String code) {
        int made = count(code, "\\bnew\\b");
        int madeInFields = count(code, "private final [\\w\\[\\]]+ \\w+ = new\\b");
        Check.due("what is made outside of fields", made - madeInFields, 0);
        Check.holds("something is made", made > 0);
    }

    private static void methodsAreShort(List<String> lines) {
        int begin = -1;
        for (int i = 0; i < lines.size(); i++) {
            String line = lines.get(i);
            if (line.matches(" {4,8}(public|private|static|int|long|boolean|void)?[^=;]*\\) \\{")) {
                begin = i;
            } else if (line.matches(" {4,8}}") && begin >= 0) {
                Check.holds("the method of line " + (begin + 1) + " is short", i - begin < 60);
                begin = -1;
            }
        }
    }
}
