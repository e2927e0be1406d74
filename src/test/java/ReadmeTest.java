import java.io.IOException;
import java.net.URL;
import java.net.URLClassLoader;
import java.nio.file.Files;
import java.nio.file.Path;
import java.util.ArrayList;
import java.util.List;
import java.util.regex.Matcher;
import java.util.regex.Pattern;
import javax.tools.ToolProvider;

/** The calls that README.md shows answer what it says behind them; it runs in the project's folder. */
public final class ReadmeTest {
    private static final Pattern SHOWN = Pattern.compile("(?m)^(int \\w+ = )?(x\\.\\w+\\(.*?\\));\\s+// (-?\\d+).*$");

    public static void main(String[] args) throws IOException, ReflectiveOperationException {
        Path folder = Files.createTempDirectory("readme");
        Path source = folder.resolve("Shown.java");
        Files.writeString(source, program(Files.readString(Path.of("README.md"))));
        int compiled = ToolProvider.getSystemJavaCompiler().run(null, null, null, "-cp",
            System.getProperty("java.class.path"), "-d", folder.toString(), source.toString());
        Check.due("what is shown compiles", compiled, 0);
        if (compiled == 0) {
            run(folder);
        }
        for (String name : new String[] {"Shown.java", "Shown.class"}) {
            Files.deleteIfExists(folder.resolve(name));
        }
        Files.delete(folder);
        Check.end("ReadmeTest");
    }

    /** A class that answers pairs: what a call gave, what README.md says that it gives. */
    private static String program(String readme) {
        String begin = "```java\n";
        int from = readme.indexOf(begin) + begin.length();
        Matcher shown = SHOWN.matcher(readme.substring(from, readme.indexOf("```", from)));
        StringBuilder code = new StringBuilder();
        int calls = 0;
        while (shown.find()) {
            boolean named = shown.group(1) != null;
            String call = named ? shown.group() + "\ngot.add((long) " + shown.group(1).split(" ")[1]
                : "got.add((long) " + shown.group(2);
            shown.appendReplacement(code, Matcher.quoteReplacement(call + "); due.add(" + shown.group(3) + "L);"));
            calls++;
        }
        shown.appendTail(code);
        Check.holds("calls are shown", calls > 10);
        return "public class Shown { public static void run(java.util.List<Long> got, java.util.List<Long> due) {\n"
            + code + "\n} }\n";
    }

    private static void run(Path folder) throws IOException, ReflectiveOperationException {
        List<Long> got = new ArrayList<>();
        List<Long> due = new ArrayList<>();
        try (URLClassLoader loader = new URLClassLoader(new URL[] {folder.toUri().toURL()})) {
            loader.loadClass("Shown").getMethod("run", List.class, List.class).invoke(null, got, due);
        }
        for (int call = 0; call < due.size(); call++) {
            Check.due("the shown call " + (call + 1), got.get(call), due.get(call));
        }
    }
}
