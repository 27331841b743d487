import java.net.URL;
import java.net.URLClassLoader;
import java.nio.file.Files;
import java.nio.file.Path;
import java.util.Comparator;
import java.util.List;
import java.util.regex.MatchResult;
import java.util.regex.Matcher;
import java.util.regex.Pattern;
import java.util.stream.Stream;
import javax.tools.JavaCompiler;
import javax.tools.ToolProvider;

/** The examples of README.md, as they stand there, are a program whose calls answer what their comments begin with. */
public final class ReadmeTest {
    private static final Pattern BLOCK = Pattern.compile("(?s)```java\n(.*?)```");
    private static final Pattern LOOKED = Pattern.compile("(?m)^(w\\.\\w+\\(.*\\)); *// (-?\\d+|NONE):.*");
    private static final List<String> SHOWN = List.of("row", "lay", "at", "text", "put", "fault", "world", "wears",
        "grows", "indoors", "price", "monday", "hangs", "explains", "lacks", "fewest", "bound", "many", "step", "plain",
        "ways", "tale", "sure", "share", "through", "rival", "happen", "household", "judge", "event", "mark", "least",
        "doubts", "back", "see", "asked", "tales", "upper", "lower", "count", "digest");

    public static void main(String[] args) throws Exception {
        StringBuilder helpers = new StringBuilder();
        StringBuilder calls = new StringBuilder();
        Matcher block = BLOCK.matcher(Files.readString(Path.of("README.md")));
        while (block.find()) {
            (block.group(1).startsWith("static ") ? helpers : calls).append(block.group(1));
        }
        for (String name : SHOWN) {
            Check.holds("an example of " + name, (helpers.toString() + calls).contains("w." + name + "("));
        }
        // So that looks don't get lost when comments are written otherwise.
        Check.holds("fifty answers are told", LOOKED.matcher(calls).results().count() >= 50);
        Path place = Files.createTempDirectory("readme");
        try {
            run(place, "public class Example {\n" + helpers + "public static void main(String[] args) {\n"
                + LOOKED.matcher(calls).replaceAll(ReadmeTest::look) + "}\n}\n");
        } finally {
            remove(place);
        }
        Check.end();
    }

    /** The example's call, now a look at its answer. */
    private static String look(MatchResult call) {
        String due = call.group(2).equals("NONE") ? "WashLine.NONE" : call.group(2);
        return Matcher.quoteReplacement(
            "ReadmeTest.due(\"" + call.group(1) + "\", " + call.group(1) + ", " + due + ");");
    }

    /** For the examples: their class has another loader, for which Check is not public enough. */
    public static void due(String call, long got, long want) {
        Check.due(call, got, want);
    }

    private static void run(Path place, String source) throws Exception {
        Path file = place.resolve("Example.java");
        Files.writeString(file, source);
        JavaCompiler compiler = ToolProvider.getSystemJavaCompiler();
        int refused = compiler.run(null, System.out, System.out, "-classpath", System.getProperty("java.class.path"),
            "-d", place.toString(), file.toString());
        Check.due("javac of the examples", refused, 0);
        if (refused == 0) {
            try (URLClassLoader loader = new URLClassLoader(new URL[] {place.toUri().toURL()})) {
                loader.loadClass("Example").getMethod("main", String[].class).invoke(null, (Object) new String[0]);
            }
        }
    }

    private static void remove(Path place) throws Exception {
        try (Stream<Path> all = Files.walk(place)) {
            for (Path each : all.sorted(Comparator.reverseOrder()).toList()) {
                Files.delete(each);
            }
        }
    }
}
