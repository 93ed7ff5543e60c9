import java.io.File;
import java.lang.reflect.Array;
import java.lang.reflect.Field;
import java.lang.reflect.Modifier;
import java.nio.file.Path;
import java.util.ArrayList;
import java.util.Arrays;
import java.util.Collections;
import java.util.IdentityHashMap;
import java.util.List;
import java.util.Map;
import java.util.Set;
import java.util.TreeMap;

/** What the static fields of a class and of the classes inside it hold: LANGUAGE.md's rule 5. */
final class StaticState {
    private static final Set<Class<?>> PLAIN = Set.of(int.class, long.class, boolean.class, char.class, String.class);
    private static final Set<Class<?>> ROWS = Set.of(int[].class, long[].class, char[].class, byte[].class);
    private static final Set<Class<?>> OF_ENUMS = Set.of(int.class, long.class, boolean.class, String.class);

    private final List<Class<?>> classes = new ArrayList<>();

    /** Found by their files, since some classes that the compiler makes are told by no other. */
    StaticState(Class<?> outer) throws Exception {
        File place = Path.of(outer.getProtectionDomain().getCodeSource().getLocation().toURI()).toFile();
        String[] files = place.list();
        Arrays.sort(files);
        for (String file : files) {
            String name = file.replaceAll("\\.class$", "");
            if (name.equals(outer.getName()) || name.startsWith(outer.getName() + "$")) {
                classes.add(Class.forName(name, false, outer.getClassLoader()));
            }
        }
    }

    int size() {
        return classes.size();
    }

    /** The fields that the rule doesn't let be, whatever calls do. */
    List<String> faults() {
        List<String> faults = new ArrayList<>();
        for (Class<?> c : classes) {
            for (Field f : c.getDeclaredFields()) {
                boolean isStatic = Modifier.isStatic(f.getModifiers());
                if ((isStatic || c.isEnum()) && !Modifier.isFinal(f.getModifiers())) {
                    faults.add(f + " isn't final");
                }
                if (isStatic ? !isConstant(f) : c.isEnum() && !OF_ENUMS.contains(f.getType())) {
                    faults.add(f + " is of a type that it may not be");
                }
            }
        }
        return faults;
    }

    private static boolean isConstant(Field f) {
        Class<?> type = f.getType();
        // Rule 12 wants values() kept in an array; the compiler keeps them so, too.
        boolean isValues = type.isArray() && type.getComponentType().isEnum();
        return PLAIN.contains(type) || ROWS.contains(type) || f.isEnumConstant() || isValues;
    }

    /** Each static field with all that it holds, as a text: two of these are alike if nothing was changed. */
    Map<String, String> held() throws Exception {
        Map<String, String> held = new TreeMap<>();
        for (Class<?> c : classes) {
            for (Field f : c.getDeclaredFields()) {
                if (Modifier.isStatic(f.getModifiers())) {
                    f.setAccessible(true);
                    Set<Object> seen = Collections.newSetFromMap(new IdentityHashMap<>());
                    held.put(f.toString(), told(f.get(null), seen));
                }
            }
        }
        return held;
    }

    private String told(Object o, Set<Object> seen) throws Exception {
        if (o == null) {
            return "null";
        }
        boolean isRow = o.getClass().isArray();
        if (!isRow && !classes.contains(o.getClass())) {
            return o.toString();
        }
        if (!seen.add(o)) {
            return "again";
        }
        return isRow ? rowTold(o, seen) : objectTold(o, seen);
    }

    private String rowTold(Object row, Set<Object> seen) throws Exception {
        StringBuilder text = new StringBuilder("[");
        for (int k = 0; k < Array.getLength(row); k++) {
            text.append(told(Array.get(row, k), seen)).append(", ");
        }
        return text.append("]").toString();
    }

    private String objectTold(Object o, Set<Object> seen) throws Exception {
        StringBuilder text = new StringBuilder(System.identityHashCode(o) + "{");
        for (Field f : o.getClass().getDeclaredFields()) {
            if (!Modifier.isStatic(f.getModifiers())) {
                f.setAccessible(true);
                text.append(f.getName()).append(": ").append(told(f.get(o), seen)).append(", ");
            }
        }
        return text.append("}").toString();
    }
}
