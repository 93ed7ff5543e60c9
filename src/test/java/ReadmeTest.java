import java.lang.reflect.Field;
import java.lang.reflect.Method;
import java.lang.reflect.Modifier;
import java.nio.file.Files;
import java.nio.file.Path;
import java.util.ArrayList;
import java.util.List;
import java.util.regex.Matcher;
import java.util.regex.Pattern;

/**
 * README.md's examples are one run of calls: each answers what stands behind it, and no call and no
 * constant of the face is left out. Run from the project's own folder.
 */
public final class ReadmeTest {
    private static final Path README = Path.of("README.md");
    private static final String MADE = "LeastInBounds x = new LeastInBounds();";
    private static final Pattern EXAMPLE = Pattern.compile("x\\.(\\w+)\\(([^()]*)\\); +// (NO \\+ [A-Z]+|[A-Z]+|-?\\d+)\\b.*");

    public static void main(String[] args) throws Exception {
        String text = Files.readString(README);
        List<String> lines = exampleLines(text);
        int made = 0;
        LeastInBounds x = new LeastInBounds();
        for (String line : lines) {
            if (line.equals(MADE)) {
                made++;
            } else {
                ask(x, line);
            }
        }
        Due.is("the object is made once, ahead of all", made == 1 && lines.get(0).equals(MADE) ? 1 : 0, 1);
        allCallsAreShown(lines);
        allConstantsAreTold(text);
        allTestsAreTold(text);
        Due.end();
    }

    private static List<String> exampleLines(String text) {
        List<String> lines = new ArrayList<>();
        Matcher blocks = Pattern.compile("(?s)```java\n(.*?)```").matcher(text);
        while (blocks.find()) {
            for (String line : blocks.group(1).split("\n")) {
                if (!line.isBlank()) {
                    lines.add(line);
                }
            }
        }
        Due.isTrue("there are examples", lines.size() > 1);
        return lines;
    }

    private static void ask(LeastInBounds x, String line) throws Exception {
        Matcher m = EXAMPLE.matcher(line);
        Due.isTrue("'" + line + "' is a call with its answer", m.matches());
        if (m.matches()) {
            Method call = callNamed(m.group(1));
            Object[] with = arguments(call, m.group(2));
            Due.is(line, ((Number) call.invoke(x, with)).longValue(), dueBy(m.group(3)));
        }
    }

    private static Method callNamed(String name) throws Exception {
        for (Method m : LeastInBounds.class.getDeclaredMethods()) {
            if (Modifier.isPublic(m.getModifiers()) && m.getName().equals(name)) {
                return m;
            }
        }
        throw new Exception("no call is named " + name);
    }

    private static Object[] arguments(Method call, String told) {
        Class<?>[] types = call.getParameterTypes();
        String[] parts = told.isEmpty() ? new String[0] : told.split(", ");
        Due.is("as many arguments as " + call + " takes", parts.length, types.length);
        Object[] with = new Object[types.length];
        for (int k = 0; k < types.length; k++) {
            if (types[k] == long.class) {
                with[k] = Long.valueOf(parts[k].replace("L", ""));
            } else {
                with[k] = Integer.valueOf(parts[k]);
            }
        }
        return with;
    }

    /** A number, a constant's name, or NO and a constant's name. */
    private static long dueBy(String told) throws Exception {
        if (told.matches("-?\\d+")) {
            return Long.parseLong(told);
        }
        long due = 0;
        for (String name : told.split(" \\+ ")) {
            due += ((Number) LeastInBounds.class.getField(name).get(null)).longValue();
        }
        return due;
    }

    private static void allCallsAreShown(List<String> lines) {
        for (Method m : LeastInBounds.class.getDeclaredMethods()) {
            if (Modifier.isPublic(m.getModifiers())) {
                Due.isTrue(m.getName() + " is shown", lines.stream().anyMatch(line -> line.startsWith("x." + m.getName() + "(")));
            }
        }
    }

    private static void allConstantsAreTold(String text) throws Exception {
        for (Field f : LeastInBounds.class.getFields()) {
            boolean isTold = f.getType() == int.class
                ? text.contains("| `" + f.getName() + "` | " + f.get(null) + " |") : text.contains("`" + f.getName() + "`");
            Due.isTrue(f.getName() + " is told", isTold);
        }
    }

    private static void allTestsAreTold(String text) throws Exception {
        try (var files = Files.list(Path.of("src/test/java"))) {
            files.map(file -> file.getFileName().toString()).filter(name -> name.endsWith("Test.java"))
                .forEach(name -> Due.isTrue(name + " is told", text.contains("`" + name.replace(".java", "") + "`")));
        }
    }
}
