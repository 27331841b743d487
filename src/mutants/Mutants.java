import java.io.ByteArrayOutputStream;
import java.io.IOException;
import java.io.OutputStream;
import java.io.PrintStream;
import java.net.URI;
import java.nio.file.Files;
import java.nio.file.Path;
import java.util.ArrayList;
import java.util.Collections;
import java.util.HashMap;
import java.util.LinkedHashMap;
import java.util.List;
import java.util.Map;
import java.util.TreeMap;
import java.util.TreeSet;
import java.util.concurrent.ExecutorService;
import java.util.concurrent.Executors;
import java.util.concurrent.Future;
import java.util.regex.Matcher;
import java.util.regex.Pattern;
import javax.tools.FileObject;
import javax.tools.ForwardingJavaFileManager;
import javax.tools.JavaCompiler;
import javax.tools.JavaFileManager;
import javax.tools.JavaFileObject;
import javax.tools.SimpleJavaFileObject;
import javax.tools.ToolProvider;

/**
 * Breaks the program in one place after the other, and tells what the tests of single sentences see of it: by itself in
 * some two thousand small ways, or as sentences.txt says. Not a part of .ci/run; README.md says how to run it.
 */
public final class Mutants {
    private static final Path SOURCE = Path.of("src/main/java/WashLine.java");
    private static final long PATIENCE = 5000;

    private static Path classes;
    private static PrintStream out;

    /** One place, what stands there, what stands there instead. */
    private record Mutant(int place, String was, String is) {
        String of(String source) {
            return source.substring(0, place) + is + source.substring(place + was.length());
        }
    }

    public static void main(String[] args) throws Exception {
        classes = Path.of(args[0]);
        out = System.out;
        System.setOut(new PrintStream(OutputStream.nullOutputStream()));
        String source = Files.readString(SOURCE);
        ExecutorService pool = Executors.newFixedThreadPool(Runtime.getRuntime().availableProcessors());
        if (args.length > 1 && args[1].equals("sentences")) {
            sentences(pool, source);
        } else {
            small(pool, source, args.length > 1 ? Integer.parseInt(args[1]) : 1);
        }
        System.exit(0);
    }

    /** Breaks the sentences, each as told; the test that is told with it has to see it. */
    private static void sentences(ExecutorService pool, String source) throws Exception {
        Matcher told = Pattern.compile("(?s)#### ([^\n|]*) \\| (\\w+)\n(.*?)\n-->\n(.*?)\n####\n")
            .matcher(Files.readString(Path.of("src/mutants/sentences.txt")));
        Map<String, Future<List<String>>> seen = new LinkedHashMap<>();
        while (told.find()) {
            int place = source.indexOf(told.group(3));
            String name = told.group(1) + ", to be seen by " + told.group(2);
            if (place < 0 || source.indexOf(told.group(3), place + 1) >= 0) {
                out.println("does not stand there once: " + name);
            } else {
                Mutant mutant = new Mutant(place, told.group(3), told.group(4));
                seen.put(name, pool.submit(() -> seenBy(mutant.of(source))));
            }
        }
        for (String name : seen.keySet()) {
            List<String> by = seen.get(name).get();
            String test = name.substring(name.lastIndexOf(' ') + 1);
            if (by == null) {
                out.println("is no program: " + name);
            } else if (by.stream().noneMatch(each -> each.endsWith("." + test))) {
                out.println("not seen: " + name + "; but by " + by);
            }
        }
        out.println(seen.size() + " sentences broken");
    }

    /** Breaks it in each n-th of all small ways; tells what no test saw, and which test saw nothing. */
    private static void small(ExecutorService pool, String source, int every) throws Exception {
        List<Mutant> all = mutants(source);
        Map<Mutant, Future<List<String>>> seen = new HashMap<>();
        List<Mutant> some = new ArrayList<>();
        for (int i = 0; i < all.size(); i += every) {
            Mutant mutant = all.get(i);
            some.add(mutant);
            seen.put(mutant, pool.submit(() -> seenBy(mutant.of(source))));
        }
        Map<String, Integer> kills = new TreeMap<>();
        int lived = 0;
        int none = 0;
        for (Mutant mutant : some) {
            List<String> by = seen.get(mutant).get();
            if (by == null) {
                none++;
            } else if (by.isEmpty()) {
                lived++;
                out.println("lived: " + told(source, mutant));
            } else {
                for (String test : by) {
                    kills.merge(test, 1, Integer::sum);
                }
            }
        }
        for (String test : names()) {
            if (!kills.containsKey(test)) {
                out.println("saw nothing: " + test);
            }
        }
        out.println(some.size() - none + " mutants, " + lived + " lived; " + none + " were no programs");
    }

    private static String told(String source, Mutant mutant) {
        int line = 1;
        for (int i = 0; i < mutant.place; i++) {
            line += source.charAt(i) == '\n' ? 1 : 0;
        }
        String text = source.split("\n")[line - 1].trim();
        return line + ": \"" + mutant.was.trim() + "\" -> \"" + mutant.is.trim() + "\" in " + text;
    }

    // ---- what is broken

    private static List<Mutant> mutants(String source) {
        String code = blanked(source);
        List<Mutant> all = new ArrayList<>();
        swap(all, code, "(?<=[\\w)\\]] )<(?= )", "<=");
        swap(all, code, "(?<= )<=(?= )", "<");
        swap(all, code, "(?<=[\\w)\\]] )>(?= )", ">=");
        swap(all, code, "(?<= )>=(?= )", ">");
        swap(all, code, "(?<= )==(?= )", "!=");
        swap(all, code, "(?<= )!=(?= )", "==");
        swap(all, code, "&&", "||");
        swap(all, code, "\\|\\|", "&&");
        swap(all, code, "(?<= )\\+(?= )", "-");
        swap(all, code, "(?<= )-(?= )", "+");
        swap(all, code, "(?<= )\\*(?= )", "+");
        swap(all, code, "Math\\.max", "Math.min");
        swap(all, code, "Math\\.min", "Math.max");
        swap(all, code, "(?<=[(\\s])!(?=[a-z])", "");
        swap(all, code, "\\+\\+(?=[;)])", "--");
        swap(all, code, "\\btrue\\b", "false");
        swap(all, code, "\\bfalse\\b", "true");
        for (String word : new String[] {"NOTHING", "BEYOND", "UNLIKE", "NOUGHT", "SIZE"}) {
            swap(all, code, "(?<=finds\\()" + word, word.equals("SIZE") ? "NOUGHT" : "SIZE");
        }
        for (String word : new String[] {"BAD", "FULL", "STATE", "SPENT", "NONE"}) {
            swap(all, code, "(?<=(return|[?:]) )" + word + "\\b", word.equals("BAD") ? "NONE" : "BAD");
        }
        numbers(all, code);
        statements(all, code);
        return all;
    }

    /** Comments and texts are blanks, so that places stay. */
    private static String blanked(String source) {
        Matcher m = Pattern.compile("(?s)/\\*.*?\\*/|//[^\n]*").matcher(source);
        StringBuilder code = new StringBuilder(source);
        while (m.find()) {
            for (int i = m.start(); i < m.end(); i++) {
                if (code.charAt(i) != '\n') {
                    code.setCharAt(i, ' ');
                }
            }
        }
        return code.toString();
    }

    private static void swap(List<Mutant> all, String code, String pattern, String... instead) {
        Matcher m = Pattern.compile(pattern).matcher(code);
        while (m.find()) {
            for (String is : instead) {
                all.add(new Mutant(m.start(), m.group(), is));
            }
        }
    }

    private static void numbers(List<Mutant> all, String code) {
        Matcher m = Pattern.compile("(?<![\\w.])\\d+(?=[^\\w])").matcher(code);
        while (m.find()) {
            if (m.group().length() < 6) {
                int n = Integer.parseInt(m.group());
                all.add(new Mutant(m.start(), m.group(), "" + (n + 1)));
                all.add(new Mutant(m.start(), m.group(), n == 0 ? "(-1)" : "" + (n - 1)));
            }
        }
        Matcher names = Pattern.compile("(?<=isWithin\\([a-z]{1,20}, )[A-Z_]+").matcher(code);
        while (names.find()) {
            all.add(new Mutant(names.start(), names.group(), names.group() + " + 1"));
        }
    }

    /** Whole statements that are calls or give a value go. */
    private static void statements(List<Mutant> all, String code) {
        Matcher m = Pattern.compile("(?m)^ {8,}(?!return|break|int |long |boolean |final |private )[a-z][^\n]*;$")
            .matcher(code);
        while (m.find()) {
            all.add(new Mutant(m.start(), m.group(), " ".repeat(m.group().length() - 1) + ";"));
        }
        // Guards: a refusal that never comes.
        Matcher guards = Pattern.compile("(?m)^ {8,}if \\((?=[^\n]*\\) \\{\n +return )").matcher(code);
        while (guards.find()) {
            all.add(new Mutant(guards.start(), guards.group(), guards.group() + "false && "));
        }
    }

    // ---- who sees it

    /** The names of the tests that see it, up to the first that does not end; null: it does not compile. */
    @SuppressWarnings({"deprecation", "removal"})
    private static List<String> seenBy(String source) throws Exception {
        Map<String, byte[]> compiled = compile(source);
        if (compiled == null) {
            return null;
        }
        List<String> by = Collections.synchronizedList(new ArrayList<>());
        String[] now = {""};
        int[] done = {0};
        Thread thread = new Thread(() -> look(compiled, by, now, done));
        thread.setDaemon(true);
        thread.start();
        int before = -1;
        while (thread.isAlive() && before < done[0]) {
            before = done[0];
            thread.join(PATIENCE);
        }
        if (thread.isAlive()) {
            by.add(now[0]);
            thread.stop();
        }
        return by;
    }

    private static void look(Map<String, byte[]> compiled, List<String> by, String[] now, int[] done) {
        try {
            Loader loader = new Loader(compiled);
            java.lang.reflect.Method run = loader.loadClass("Edges").getDeclaredMethod("holds",
                java.lang.reflect.Method.class);
            run.setAccessible(true);
            for (String test : names()) {
                now[0] = test;
                Class<?> tests = loader.loadClass(test.substring(0, test.indexOf('.')));
                if (!(Boolean) run.invoke(null, tests.getDeclaredMethod(test.substring(test.indexOf('.') + 1)))) {
                    by.add(test);
                }
                done[0]++;
            }
        } catch (Throwable broken) {
            by.add(now[0]);
        }
    }

    private static TreeSet<String> names() throws Exception {
        TreeSet<String> names = new TreeSet<>();
        Loader loader = new Loader(Map.of());
        List<?> all = (List<?>) field(loader.loadClass("Edges"), "ALL");
        for (Object tests : all) {
            for (java.lang.reflect.Method each : ((Class<?>) tests).getDeclaredMethods()) {
                if (each.getAnnotations().length > 0) {
                    names.add(((Class<?>) tests).getName() + "." + each.getName());
                }
            }
        }
        return names;
    }

    private static Object field(Class<?> of, String name) throws Exception {
        java.lang.reflect.Field field = of.getDeclaredField(name);
        field.setAccessible(true);
        return field.get(null);
    }

    /** The tests as they are, the program as it was compiled just now. */
    private static final class Loader extends ClassLoader {
        private final Map<String, byte[]> compiled;

        Loader(Map<String, byte[]> compiled) {
            super(null);
            this.compiled = compiled;
        }

        @Override
        protected Class<?> findClass(String name) throws ClassNotFoundException {
            try {
                byte[] bytes = compiled.get(name);
                if (bytes == null) {
                    Path file = classes.resolve(name + ".class");
                    if (!Files.exists(file)) {
                        throw new ClassNotFoundException(name);
                    }
                    bytes = Files.readAllBytes(file);
                }
                return defineClass(name, bytes, 0, bytes.length);
            } catch (IOException unread) {
                throw new ClassNotFoundException(name, unread);
            }
        }
    }

    // ---- compiling

    private static Map<String, byte[]> compile(String source) throws IOException {
        JavaCompiler compiler = ToolProvider.getSystemJavaCompiler();
        Map<String, ByteArrayOutputStream> made = new HashMap<>();
        JavaFileManager files = new ForwardingJavaFileManager<JavaFileManager>(
                compiler.getStandardFileManager(d -> { }, null, null)) {
            @Override
            public JavaFileObject getJavaFileForOutput(Location place, String name, JavaFileObject.Kind kind,
                    FileObject sibling) {
                ByteArrayOutputStream bytes = new ByteArrayOutputStream();
                made.put(name, bytes);
                return new SimpleJavaFileObject(URI.create("mem:///" + name + ".class"), kind) {
                    @Override
                    public OutputStream openOutputStream() {
                        return bytes;
                    }
                };
            }
        };
        JavaFileObject text = new SimpleJavaFileObject(URI.create("mem:///WashLine.java"), JavaFileObject.Kind.SOURCE) {
            @Override
            public CharSequence getCharContent(boolean ignore) {
                return source;
            }
        };
        boolean good = compiler.getTask(null, files, d -> { }, List.of("-proc:none"), null, List.of(text)).call();
        files.close();
        if (!good) {
            return null;
        }
        Map<String, byte[]> compiled = new HashMap<>();
        made.forEach((name, bytes) -> compiled.put(name, bytes.toByteArray()));
        return compiled;
    }
}
