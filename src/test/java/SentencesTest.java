import java.io.IOException;
import java.lang.reflect.Method;
import java.nio.file.Files;
import java.nio.file.Path;
import java.util.List;
import java.util.Map;
import java.util.TreeMap;
import java.util.regex.Matcher;
import java.util.regex.Pattern;

/** Each sentence of ../shared/DOC.md bears a test of its own, or names no boundary case. */
public final class SentencesTest {
    /** What names no boundary case of its own: names, lists of words, what others spell out. */
    private static final Map<Integer, List<String>> PLAIN = Map.of(
        -1, List.of("what later calls answer is free."),
        0, List.of("ANSWERS.", "FINDINGS:", "A WORLD is a TEXT:", "into which SORT it grows", "on a Monday",
            "told as a number:", "A STEP from one HOUSEHOLD to another one:", "DOUBTS of a HOUSEHOLD that stays:",
            "SEEN next:"));

    public static void main(String[] args) throws IOException {
        Path path = Path.of("../shared/DOC.md");
        if (!Files.isReadable(path)) {
            System.out.println(path + " is not here: sentences are not looked at");
            return;
        }
        Map<Integer, String> document = document(Files.readString(path));
        Map<Integer, boolean[]> said = new TreeMap<>();
        for (int promise : document.keySet()) {
            said.put(promise, new boolean[document.get(promise).length()]);
        }
        for (Class<?> tests : Edges.ALL) {
            for (Method test : Edges.of(tests)) {
                Says says = test.getAnnotation(Says.class);
                for (String words : says.value()) {
                    say(document, said, says.promise(), words, test.getName());
                }
            }
        }
        for (int promise : PLAIN.keySet()) {
            for (String words : PLAIN.get(promise)) {
                say(document, said, promise, words, "PLAIN");
            }
        }
        for (int promise : document.keySet()) {
            String left = left(document.get(promise), said.get(promise));
            Check.holds(promise + ": no test for \"" + left + "\"", left.isEmpty());
        }
        Check.end();
    }

    /** The promises by their numbers, the terms by 0, how long an object is used by -1; blanks are one blank. */
    private static Map<Integer, String> document(String text) {
        String all = text.replaceAll("```(text)?|======== (\\d )?", " ");
        Map<Integer, String> document = new TreeMap<>();
        document.put(-1, one(all, "An object is used for", "## The public face"));
        document.put(0, one(all, "ANSWERS. ", "Ahead of the calls"));
        Matcher heads = Pattern.compile("## Promise (\\d+): [^\n]*\n\n`[^`]*`: ([^\n]*)\n").matcher(all);
        while (heads.find()) {
            document.put(Integer.parseInt(heads.group(1)), squeeze(heads.group(2)));
        }
        Check.due("promises", document.size(), 51);
        return document;
    }

    private static String one(String all, String from, String to) {
        return squeeze(all.substring(all.indexOf(from), all.indexOf(to, all.indexOf(from))));
    }

    private static String squeeze(String text) {
        return text.replaceAll("\\s+", " ").trim();
    }

    private static void say(Map<Integer, String> document, Map<Integer, boolean[]> said, int promise, String words,
            String by) {
        String text = document.getOrDefault(promise, "");
        int place = text.indexOf(words);
        Check.holds(by + " says what stands in " + promise + ": " + words, place >= 0);
        for (int i = place; i >= 0 && i < place + words.length(); i++) {
            said.get(promise)[i] = true;
        }
    }

    /** What no test says, without the signs between sentences. */
    private static String left(String text, boolean[] said) {
        StringBuilder left = new StringBuilder();
        for (int i = 0; i < text.length(); i++) {
            left.append(said[i] ? '|' : text.charAt(i));
        }
        return left.toString().replaceAll("\\|[\\s.,:;()|]*\\|", "|").replaceAll("^[\\s.,:;()|]*|[\\s.,:;()|]*$", "");
    }
}
