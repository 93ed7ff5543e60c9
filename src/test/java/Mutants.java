import java.io.ByteArrayOutputStream;
import java.io.IOException;
import java.io.InputStream;
import java.io.OutputStream;
import java.io.PrintStream;
import java.io.Writer;
import java.lang.reflect.Method;
import java.net.URI;
import java.nio.file.Files;
import java.nio.file.Path;
import java.util.ArrayList;
import java.util.HashMap;
import java.util.List;
import java.util.Map;
import java.util.Set;
import java.util.concurrent.Callable;
import java.util.concurrent.ConcurrentHashMap;
import java.util.concurrent.ExecutionException;
import java.util.concurrent.ExecutorService;
import java.util.concurrent.Executors;
import java.util.concurrent.Future;
import java.util.concurrent.TimeUnit;
import java.util.concurrent.TimeoutException;
import java.util.regex.Matcher;
import java.util.regex.Pattern;
import javax.tools.FileObject;
import javax.tools.ForwardingJavaFileManager;
import javax.tools.JavaCompiler;
import javax.tools.JavaFileManager;
import javax.tools.JavaFileObject;
import javax.tools.SimpleJavaFileObject;
import javax.tools.StandardJavaFileManager;
import javax.tools.ToolProvider;

/**
 * Run by hand, not by CI: breaks the class in one place after the other (a comparison, a number, a
 * sign, a refusal, a statement left out), and tells which breakages BoundariesTest does not see, and
 * which of its sentences saw none.
 */
public final class Mutants {
    private static final Path SOURCE = Path.of("src/main/java/LeastInBounds.java");
    private static final long MOST_SECONDS = 60;
    private static final String[][] SWAPS = {
        {" < ", " <= "}, {" <= ", " < "}, {" > ", " >= "}, {" >= ", " > "}, {" == ", " != "}, {" != ", " == "},
        {" < ", " >= "}, {" > ", " <= "}, {" <= ", " > "}, {" >= ", " < "},
        {" && ", " || "}, {" || ", " && "}, {" + ", " - "}, {" - ", " + "}, {" * ", " + "}, {" += ", " -= "}, {" -= ", " += "},
        {"(!", "("}, {" !", " "}, {"-", ""}, {" & ", " | "}, {" | ", " & "}, {" ? ", " == 77 ? "},
        {"BAD", "STATE"}, {"STATE", "BAD"}, {"STATE", "NONE"}, {"NONE", "BAD"}, {"NONE", "STATE"}, {"FULL", "BAD"}, {"MUCH", "PLACE"},
        {"NOTHING", "PLACE"}, {"PLACE", "NOTHING"}, {"PLACE", "BAD"}, {"KIND", "PLACE"}, {"SIZE", "BAD"}, {"SIZE", "MUCH"}
    };
    private static final PrintStream OUT = System.out;
    private static final Set<String> BROKEN = ConcurrentHashMap.newKeySet();
    private static final JavaCompiler COMPILER = ToolProvider.getSystemJavaCompiler();

    private Mutants() {
    }

    /** One breakage: from where to where the source is another. */
    private static final class Mutant {
        final int from;
        final int to;
        final String instead;

        Mutant(int from, int to, String instead) {
            this.from = from;
            this.to = to;
            this.instead = instead;
        }

        String of(String source) {
            return source.substring(0, from) + instead + source.substring(to);
        }

        String told(String source) {
            int line = source.substring(0, from).split("\n", -1).length;
            int begin = source.lastIndexOf('\n', from) + 1;
            return line + ": " + source.substring(begin, source.indexOf('\n', from)).trim() + "   [" + source.substring(from, to).trim()
                + " -> " + instead.trim() + " at " + (from - begin) + "]";
        }
    }

    public static void main(String[] args) throws Exception {
        String source = Files.readString(SOURCE);
        List<Mutant> mutants = mutantsOf(source);
        System.setOut(new PrintStream(OutputStream.nullOutputStream()));
        ExecutorService pool = Executors.newFixedThreadPool(Runtime.getRuntime().availableProcessors(), Mutants::quiet);
        List<Future<String>> fates = new ArrayList<>();
        for (Mutant m : mutants) {
            fates.add(pool.submit(() -> fateOf(m.of(source))));
        }
        Map<String, Integer> counts = new HashMap<>();
        for (int k = 0; k < mutants.size(); k++) {
            String fate = fates.get(k).get();
            counts.merge(fate, 1, Integer::sum);
            if (fate.equals("not seen")) {
                OUT.println(mutants.get(k).told(source));
            }
        }
        OUT.println(counts);
        for (String sentence : BoundariesTest.all().told()) {
            if (!BROKEN.contains(sentence)) {
                OUT.println("saw none: " + sentence);
            }
        }
        System.exit(0);
    }

    private static Thread quiet(Runnable task) {
        Thread t = new Thread(task);
        t.setDaemon(true);
        return t;
    }

    /** Comments are blanked out, so that nothing in them is changed. */
    private static String blanked(String source) {
        Matcher m = Pattern.compile("(?s)/\\*.*?\\*/|//[^\n]*").matcher(source);
        StringBuilder code = new StringBuilder(source);
        while (m.find()) {
            for (int k = m.start(); k < m.end(); k++) {
                if (code.charAt(k) != '\n') {
                    code.setCharAt(k, ' ');
                }
            }
        }
        return code.toString();
    }

    private static List<Mutant> mutantsOf(String source) {
        String code = blanked(source);
        List<Mutant> all = new ArrayList<>();
        for (String[] swap : SWAPS) {
            String edge = Character.isLetter(swap[0].charAt(0)) ? "\\b" : "";
            Matcher m = Pattern.compile(edge + Pattern.quote(swap[0]) + edge).matcher(code);
            while (m.find()) {
                all.add(new Mutant(m.start(), m.end(), swap[1]));
            }
        }
        Matcher numbers = Pattern.compile("\\b(\\d+)(L?)\\b").matcher(code);
        while (numbers.find()) {
            long v = Long.parseLong(numbers.group(1));
            all.add(new Mutant(numbers.start(), numbers.end(), (v + 1) + numbers.group(2)));
            all.add(new Mutant(numbers.start(), numbers.end(), "(" + (v - 1) + numbers.group(2) + ")"));
        }
        Matcher names = Pattern.compile("(?<!int )(?<!, )\\bMOST_(?!SETS|ROWS|STEPS)[A-Z_]+\\b(?! =)|\\b(n|wide|size|lines)\\b(?=[;) ])").matcher(code);
        while (names.find()) {
            all.add(new Mutant(names.start(), names.end(), "(" + names.group() + " + 1)"));
            all.add(new Mutant(names.start(), names.end(), "(" + names.group() + " - 1)"));
        }
        Matcher statements = Pattern.compile("(?m)^ +(?!return|int |long |final |private |public |case |break|boolean )[^;{}\n]+;$").matcher(code);
        while (statements.find()) {
            all.add(new Mutant(statements.start(), statements.end(), ""));
        }
        return all;
    }

    private static String fateOf(String source) throws Exception {
        Map<String, byte[]> classes = compiled(source);
        if (classes == null) {
            return "does not compile";
        }
        ExecutorService one = Executors.newSingleThreadExecutor(Mutants::quiet);
        Callable<Boolean> test = () -> isSeen(new Loader(classes));
        try {
            return one.submit(test).get(MOST_SECONDS, TimeUnit.SECONDS) ? "seen" : "not seen";
        } catch (TimeoutException late) {
            return "does not end";
        } catch (ExecutionException thrown) {
            return "throws";
        } finally {
            one.shutdownNow();
        }
    }

    private static boolean isSeen(Loader loader) throws Exception {
        Method all = loader.loadClass("BoundariesTest").getDeclaredMethod("all");
        all.setAccessible(true);
        Object told = all.invoke(null);
        Method broken = told.getClass().getDeclaredMethod("broken");
        broken.setAccessible(true);
        List<?> sentences = (List<?>) broken.invoke(told);
        for (Object sentence : sentences) {
            BROKEN.add(sentence.toString());
        }
        return !sentences.isEmpty();
    }

    private static Map<String, byte[]> compiled(String source) throws Exception {
        Map<String, ByteArrayOutputStream> made = new HashMap<>();
        JavaFileObject file = new SimpleJavaFileObject(URI.create("string:///LeastInBounds.java"), JavaFileObject.Kind.SOURCE) {
            @Override
            public CharSequence getCharContent(boolean ignored) {
                return source;
            }
        };
        try (StandardJavaFileManager standard = COMPILER.getStandardFileManager(d -> { }, null, null)) {
            JavaFileManager files = new ForwardingJavaFileManager<JavaFileManager>(standard) {
                @Override
                public JavaFileObject getJavaFileForOutput(Location at, String name, JavaFileObject.Kind kind, FileObject sibling) {
                    return new SimpleJavaFileObject(URI.create("mem:///" + name), kind) {
                        @Override
                        public OutputStream openOutputStream() {
                            made.put(name, new ByteArrayOutputStream());
                            return made.get(name);
                        }
                    };
                }
            };
            if (!COMPILER.getTask(Writer.nullWriter(), files, d -> { }, null, null, List.of(file)).call()) {
                return null;
            }
        }
        Map<String, byte[]> classes = new HashMap<>();
        made.forEach((name, bytes) -> classes.put(name, bytes.toByteArray()));
        return classes;
    }

    /** Has the broken class, and the tests anew, so that they ask the broken one. */
    private static final class Loader extends ClassLoader {
        private final Map<String, byte[]> classes;

        Loader(Map<String, byte[]> classes) {
            super(ClassLoader.getPlatformClassLoader());
            this.classes = classes;
        }

        @Override
        protected Class<?> findClass(String name) throws ClassNotFoundException {
            byte[] bytes = classes.get(name);
            try (InputStream in = ClassLoader.getSystemResourceAsStream(name + ".class")) {
                if (bytes == null && in == null) {
                    throw new ClassNotFoundException(name);
                }
                byte[] own = bytes != null ? bytes : in.readAllBytes();
                return defineClass(name, own, 0, own.length);
            } catch (IOException failed) {
                throw new ClassNotFoundException(name, failed);
            }
        }
    }
}
