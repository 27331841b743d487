import java.io.IOException;
import java.nio.file.Files;
import java.nio.file.Path;
import java.util.List;
import java.util.Map;
import java.util.Set;
import java.util.TreeMap;
import java.util.TreeSet;
import java.util.regex.Matcher;
import java.util.regex.Pattern;

/** What can be seen of ../shared/LANGUAGE.md in the program's text, and on its stack of calls. */
public final class LanguageTest {
    private static final String[] NEVER = {
        "throw", "throws", "try", "catch", "synchronized", "assert", "finally", "volatile", "native", "package",
        "protected", "equals", "hashCode", "toString", "System\\.(?!arraycopy)\\w+", "->", "::", "Exact\\b",
        "Object\\b", "Random", "Thread", "nanoTime", "var ", "yield", "record ", "interface ", "abstract "
    };
    private static final String[] LIBRARY = {
        "Arrays.fill", "Math.max", "Math.min", "System.arraycopy"
    };

    public static void main(String[] args) throws IOException {
        String source = Files.readString(Path.of("src/main/java/WashLine.java"));
        String code = source.replaceAll("(?s)/\\*.*?\\*/", "").replaceAll("//[^\n]*", "");
        for (String never : NEVER) {
            String pattern = Character.isLetter(never.charAt(0)) ? "\\b" + never : never;
            pattern += Character.isLetter(never.charAt(never.length() - 1)) ? "\\b" : "";
            Check.holds("no " + never, !Pattern.compile(pattern).matcher(code).find());
        }
        Check.holds("imports Arrays alone", code.replaceFirst("import java.util.Arrays;", "").indexOf("import") < 0);
        library(code);
        signs(source);
        methods(code);
        Check.end();
    }

    private static void library(String code) {
        Matcher call = Pattern.compile("\\b(Arrays|Math|System|Integer|Long|String|List)\\.\\w+").matcher(code);
        while (call.find()) {
            Check.holds(call.group() + " is of the library", List.of(LIBRARY).contains(call.group()));
        }
    }

    private static void signs(String source) {
        for (int i = 0; i < source.length(); i++) {
            char c = source.charAt(i);
            Check.holds("sign " + (int) c + " at " + i, c == '\n' || c >= 32 && c < 127);
        }
        for (String line : source.split("\n")) {
            Check.holds("a line of 120 signs at most: " + line, line.length() <= 120);
        }
    }

    private static final Map<String, Set<String>> CALLS = new TreeMap<>();
    private static final Set<String> OPEN = new TreeSet<>();

    /** Methods of some sixty lines at most, no recursion, calls at most eight deep (methods of one name are one). */
    private static void methods(String code) {
        String[] lines = code.split("\n");
        for (int i = 0; i < lines.length; i++) {
            Matcher head = Pattern.compile("( {4}| {8})[a-zA-Z][^=]*?(\\w+)\\([^()]*\\) \\{").matcher(lines[i]);
            if (head.matches() && !lines[i].matches(" +(if|for|while|switch) .*")) {
                int end = i + 1;
                while (!lines[end].equals(head.group(1) + "}")) {
                    end++;
                }
                Check.holds("short: " + lines[i], end - i <= 60);
                Set<String> calls = CALLS.computeIfAbsent(head.group(2), name -> new TreeSet<>());
                for (int k = i + 1; k < end; k++) {
                    Matcher call = Pattern.compile("(\\w+)\\(").matcher(lines[k]);
                    while (call.find()) {
                        calls.add(call.group(1));
                    }
                }
            }
        }
        Check.holds("methods were found: " + CALLS.size(), CALLS.size() > 120);
        for (String name : CALLS.keySet()) {
            Check.holds(name + " calls " + depth(name) + " deep", depth(name) <= 8);
        }
    }

    private static int depth(String name) {
        if (List.of("if", "for", "while", "switch").contains(name)) {
            return 0;
        }
        Check.holds(name + " does not call itself", OPEN.add(name));
        int most = 0;
        for (String called : CALLS.getOrDefault(name, Set.of())) {
            if (!OPEN.contains(called)) {
                most = Math.max(most, depth(called));
            } else {
                Check.holds(name + " calls no open " + called, false);
            }
        }
        OPEN.remove(name);
        return most + 1;
    }
}
