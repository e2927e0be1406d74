import java.io.IOException;
import java.lang.reflect.Field;
import java.lang.reflect.Modifier;
import java.nio.file.Files;
import java.nio.file.Path;
import java.util.ArrayList;
import java.util.List;
import java.util.regex.Matcher;
import java.util.regex.Pattern;

/** Those rules of LANGUAGE.md that a look at the text of the class can hold it to; it runs in the project's folder. */
public final class LanguageTest {
    private static final Path SOURCE = Path.of("src", "main", "java", "ByHand.java");
    private static final String[] FORBIDDEN = {"throw", "throws", "try", "catch", "finally", "synchronized", "assert",
        "instanceof", "import", "package", "Object", "equals", "hashCode", "toString", "Random", "Thread", "File",
        "nanoTime", "currentTimeMillis", "getenv", "getProperty", "var", "this", "protected", "volatile", "native",
        "\\w+Exact", "lambda", "Class"};

    public static void main(String[] args) throws IOException {
        String code = withoutComments(Files.readString(SOURCE));
        for (String word : FORBIDDEN) {
            Check.due("how often " + word + " stands in it", count(code, "\\b" + word + "\\b"), 0);
        }
        Check.due("arrows", count(code, "->"), 0);
        Check.due("method references", count(code, "::"), 0);
        Check.due("texts", count(code, "\""), 0);
        Check.due("other calls of System", count(code, "System\\.(?!arraycopy\\()"), 0);
        Check.due("other calls of Math", count(code, "Math\\.(?!(min|max)\\()"), 0);
        Check.due("other calls of Integer", count(code, "Integer\\.(?!bitCount\\()"), 0);
        rowsAreMadeOnce(code);
        methodsAreShort(Files.readAllLines(SOURCE));
        List<Body> bodies = bodies(code);
        takeFewParameters(bodies);
        goFewCallsDeep(bodies);
        keepFewFields();
        Check.end("LanguageTest");
    }

    private static String withoutComments(String text) {
        return text.replaceAll("(?s)/\\*.*?\\*/", "").replaceAll("//[^\n]*", "");
    }

    private static int count(String code, String pattern) {
        Matcher found = Pattern.compile(pattern).matcher(code);
        int count = 0;
        while (found.find()) {
            count++;
        }
        return count;
    }

    /** All calls of a run share one room: what is made stands in the fields, so no call makes anything. */
    private static void rowsAreMadeOnce(String code) {
        int made = count(code, "\\bnew\\b");
        int madeInFields = count(code, "private final [\\w\\[\\]]+ \\w+ = new\\b");
        Check.due("what is made outside of fields", made - madeInFields, 0);
        Check.holds("something is made", made > 0);
    }

    private static void methodsAreShort(List<String> lines) {
        int begin = -1;
        for (int i = 0; i < lines.size(); i++) {
            String line = lines.get(i);
            if (line.matches(" {4,8}(public|private|static|int|long|boolean|void)?[^=;]*\\) \\{")) {
                begin = i;
            } else if (line.matches(" {4,8}}") && begin >= 0) {
                Check.holds("the method of line " + (begin + 1) + " is short", i - begin < 60);
                begin = -1;
            }
        }
    }
    /** A method of the class or of one inside it, as it stands in the text. */
    private record Body(String of, String name, String parameters, String text) {
    }

    private static List<Body> bodies(String code) {
        List<Body> bodies = new ArrayList<>();
        Matcher found = Pattern.compile("(?m)^( {4}| {8})(?:[\\w\\[\\]]+ )*(\\w+)\\(([^)]*)\\) \\{$").matcher(code);
        while (found.find()) {
            int end = code.indexOf("\n" + found.group(1) + "}\n", found.start());
            String of = found.group(1).length() == 4 ? "ByHand" : classAround(code, found.start());
            bodies.add(new Body(of, found.group(2), found.group(3), code.substring(found.end(), end)));
        }
        Check.holds("the methods are found", bodies.size() > 100);
        return bodies;
    }

    private static String classAround(String code, int place) {
        Matcher found = Pattern.compile(" class (\\w+) \\{").matcher(code.substring(0, place));
        String around = "";
        while (found.find()) {
            around = found.group(1);
        }
        return around;
    }

    private static void takeFewParameters(List<Body> bodies) {
        for (Body body : bodies) {
            Check.holds(body.of() + "." + body.name() + " takes seven at most", body.parameters().split(",").length <= 7);
        }
    }

    /** Nothing recurs, so eight calls at most may stand open at once. */
    private static void goFewCallsDeep(List<Body> bodies) {
        for (Body body : bodies) {
            Check.holds(body.of() + "." + body.name() + " goes eight deep at most", depth(body, bodies, 1) <= 8);
        }
    }

    private static int depth(Body body, List<Body> bodies, int open) {
        int deepest = open;
        if (open > 8) {
            return deepest;
        }
        Matcher call = Pattern.compile("(\\.?)\\b(\\w+)\\(").matcher(body.text());
        while (call.find()) {
            for (Body called : bodies) {
                if (called.name().equals(call.group(2)) && mayMean(body, called, !call.group(1).isEmpty())) {
                    deepest = Math.max(deepest, depth(called, bodies, open + 1));
                }
            }
        }
        return deepest;
    }

    /** A call behind a point may mean each class inside; one without means its own class or the outer one. */
    private static boolean mayMean(Body body, Body called, boolean behindPoint) {
        boolean outer = called.of().equals("ByHand");
        return behindPoint ? !outer : outer || called.of().equals(body.of());
    }

    private static void keepFewFields() {
        keepsFewFields(ByHand.class);
        for (Class<?> inside : ByHand.class.getDeclaredClasses()) {
            keepsFewFields(inside);
        }
    }

    private static void keepsFewFields(Class<?> kept) {
        int fields = 0;
        for (Field field : kept.getDeclaredFields()) {
            fields += Modifier.isStatic(field.getModifiers()) ? 0 : 1;
        }
        Check.holds(kept.getSimpleName() + " has twenty fields at most", fields <= 20);
    }
}
