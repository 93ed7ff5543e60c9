import java.lang.reflect.Method;
import java.util.ArrayList;
import java.util.Arrays;
import java.util.List;
import java.util.Random;
import java.util.Set;

/**
 * Holds the class against the reference, in long runs of drawn calls (always the same ones): bowls
 * and lines are built, then all kinds of calls are asked, right and wrong ones, on two objects in
 * turn (the book's calls on the one made last alone: NOTES.md says why). An argument is the run's
 * seed, to see one run alone.
 */
public final class ReferenceTest {
    private static final int RUNS = 260;
    private static final int CALLS = 500;
    private static final int MADE_LAST = 1;
    private static final Set<String> OF_THE_BOOK = Set.of("solve", "notes", "mark", "trail", "least");
    private static final int[] WILD = {
        Integer.MIN_VALUE, Integer.MAX_VALUE, -100, -99, -21, -10, -9, -2, -1, 0, 1, 2, 3, 4, 5, 6, 7, 8,
        9, 10, 12, 13, 20, 21, 40, 41, 63, 64, 99, 100, 1 << 30
    };
    private static final long[] WILD_LONGS = {
        Long.MIN_VALUE, Long.MAX_VALUE, 1000000000000L, 1000000000001L, -1000000000000L, -1000000000001L,
        2147483647L, 2147483648L, -2147483648L, -2147483649L, 0, 1, -1
    };
    private static final List<Method> CALLS_OF_CLASS = new ArrayList<>();

    private final Random random;
    private final int style;
    private final List<String> told = new ArrayList<>();
    private final LeastInBounds[] objects = new LeastInBounds[2];
    private final Reference[] references = new Reference[2];
    private int asked = 0;

    private ReferenceTest(long seed) {
        random = new Random(seed);
        style = (int) (seed % 4);
        for (int k = 0; k < 2; k++) {
            objects[k] = new LeastInBounds();
            references[k] = new Reference();
        }
    }

    public static void main(String[] args) throws Exception {
        for (Method m : LeastInBounds.class.getDeclaredMethods()) {
            if (java.lang.reflect.Modifier.isPublic(m.getModifiers())) {
                CALLS_OF_CLASS.add(m);
            }
        }
        CALLS_OF_CLASS.sort((a, b) -> a.getName().compareTo(b.getName()));
        long from = args.length > 0 ? Long.parseLong(args[0]) : 0;
        long to = args.length > 1 ? Long.parseLong(args[1]) : args.length > 0 ? from + 1 : RUNS;
        for (long seed = from; seed < to && Due.allRight(); seed++) {
            new ReferenceTest(seed).go();
        }
        Due.end();
    }

    private void go() throws Exception {
        while (asked < CALLS && Due.allRight()) {
            int who = style == 3 ? random.nextInt(2) : MADE_LAST;
            build(who);
            tryCertificates(who);
            for (int k = 0; k < 40 && Due.allRight(); k++) {
                Method m = CALLS_OF_CLASS.get(random.nextInt(CALLS_OF_CLASS.size()));
                boolean wipes = m.getName().equals("size") || m.getName().equals("back");
                if (!wipes || random.nextInt(8) == 0) {
                    ask(style == 3 && random.nextInt(6) == 0 ? 1 - who : who, m, drawn(who, m));
                }
            }
        }
        if (!Due.allRight()) {
            told.forEach(System.out::println);
        }
    }

    private void build(int who) throws Exception {
        int n = 1 + random.nextInt(3);
        call(who, "size", n);
        for (int i = 0; i < n; i++) {
            for (int j = 0; j <= i; j++) {
                call(who, "bend", i, j, i == j ? square() : small(9));
            }
            call(who, "push", i, small(99));
        }
        call(who, "tide", random.nextInt(3) == 0 ? 0 : random.nextInt(41));
        int lines = random.nextInt(8);
        for (int l = 0; l < lines; l++) {
            call(who, "line", random.nextInt(5), small(99), small(9));
            for (int i = 0; i < n; i++) {
                call(who, "slope", l, i, small(9));
            }
        }
    }

    private int square() {
        return style == 0 ? 1 + random.nextInt(3) : style == 1 ? 16 + random.nextInt(5) : 1 + random.nextInt(20);
    }

    /** By the run's style near 0 (so that much is just met), far from it (long fractions), or anything. */
    private int small(int most) {
        int near = Math.min(2, most);
        if (style == 0) {
            return random.nextInt(2 * near + 1) - near;
        }
        if (style == 1 && random.nextInt(3) != 0) {
            return (random.nextBoolean() ? 1 : -1) * (most - random.nextInt(2));
        }
        return random.nextInt(2 * most + 1) - most;
    }

    private Object[] drawn(int who, Method m) {
        Class<?>[] types = m.getParameterTypes();
        Object[] args = new Object[types.length];
        for (int k = 0; k < types.length; k++) {
            args[k] = types[k] == long.class ? (Object) drawnLong() : (Object) drawnInt(who, m.getName(), k);
        }
        return args;
    }

    private long drawnLong() {
        return random.nextInt(3) == 0 ? WILD_LONGS[random.nextInt(WILD_LONGS.length)] : random.nextInt(9) - 4;
    }

    /** What each argument of a call is, a letter each: see drawnBy. */
    private static String rolesOf(String name) {
        switch (name) {
            case "size": return "n";
            case "bend": return "iib";
            case "push": return "iP";
            case "tide": return "t";
            case "line": return "kPd";
            case "slope": return "lad";
            case "change": return "lad";
            case "drop": return "l";
            case "lineOf": return "lo";
            case "minor": return "n";
            case "working": case "held": case "tight": return "S";
            case "answer": return "Sip";
            case "worth": return "Sp";
            case "weight": case "slack": return "Slp";
            case "walk": return "k";
            case "pieces": return "t";
            case "reach": case "least": return "p";
            case "nearest": return "PPPip";
            case "distance": return "PPPp";
            case "certify": case "check": return "s";
            case "trail": return "o";
            case "sheet": return "sec";
            case "cell": case "read": return "sc-";
            case "copy": return "scscc";
            case "count": return "i";
            default: return "";
        }
    }

    private int drawnInt(int who, String name, int k) {
        return random.nextInt(12) == 0 ? WILD[random.nextInt(WILD.length)] : drawnBy(rolesOf(name).charAt(k), who);
    }

    private int drawnBy(char role, int who) {
        int n = references[who].count(0);
        int lines = references[who].count(1);
        switch (role) {
            case 'S': return random.nextInt(3) == 0 ? (1 << lines) - 1 : random.nextInt(1 << lines);
            case 'i': return random.nextInt(n);
            case 'l': return random.nextInt(lines + 1);
            case 'p': return random.nextInt(2);
            case 'P': return small(99);
            case 'a': case 's': return random.nextInt(4);
            case 'b': return random.nextInt(3) == 0 ? square() : small(9);
            case 'c': return random.nextInt(5);
            case 'd': return small(9);
            case 'e': return random.nextInt(8) == 0 ? -1 : random.nextInt(2);
            case 'k': return random.nextInt(5);
            case 'n': return 1 + random.nextInt(3);
            case 'o': return random.nextInt(8);
            case 't': return random.nextInt(random.nextInt(4) == 0 ? 41 : 5);
            default: return 0;
        }
    }

    /** A certificate, then the same with one number another, or all doubled. */
    private void tryCertificates(int who) throws Exception {
        int s = random.nextInt(4);
        call(who, "certify", s);
        call(who, "check", s);
        int length = references[who].count(0) + references[who].count(1) + 1;
        for (int k = 0; k < length && references[who].read(s, k) >= -1000000000000L; k++) {
            call(who, "cell", s, k, 2 * references[who].read(s, k));
        }
        call(who, "check", s);
        for (int k = 0; k < 3; k++) {
            int at = random.nextInt(length);
            long was = references[who].read(s, at);
            call(who, "cell", s, at, random.nextInt(3) == 0 ? drawnLong() : was + random.nextInt(5) - 2);
            call(who, "check", s);
            call(who, "cell", s, at, was);
        }
    }

    private void call(int who, String name, Object... args) throws Exception {
        for (Method m : CALLS_OF_CLASS) {
            if (m.getName().equals(name)) {
                ask(who, m, args);
            }
        }
    }

    private void ask(int who, Method m, Object[] args) throws Exception {
        if (asked >= CALLS || who != MADE_LAST && OF_THE_BOOK.contains(m.getName())) {
            return;
        }
        asked++;
        long got = ((Number) m.invoke(objects[who], args)).longValue();
        Method due = Reference.class.getDeclaredMethod(m.getName(), m.getParameterTypes());
        long want = ((Number) due.invoke(references[who], args)).longValue();
        String call = "object " + who + ": " + m.getName() + Arrays.toString(args);
        told.add(call + " -> " + want);
        Due.is(call, got, want);
    }
}
