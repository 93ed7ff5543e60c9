import java.lang.reflect.Constructor;
import java.lang.reflect.Field;
import java.lang.reflect.Method;
import java.lang.reflect.Modifier;
import java.util.Arrays;
import java.util.Set;
import java.util.TreeSet;

/** The class has the document's face and no other: constants, constructor, methods. */
public final class FaceTest {
    private static final String[] METHODS = {
        "int size(int)", "int bend(int,int,int)", "int push(int,int)", "int tide(int)", "int line(int,int,int)",
        "int slope(int,int,int)", "int change(int,int,int)", "int drop(int)", "int lineOf(int,int)", "int minor(int)",
        "int isProper()", "int working(int)", "long answer(int,int,int)", "long worth(int,int)",
        "long weight(int,int,int)", "long slack(int,int,int)", "int held(int)", "int tight(int)", "int steps()",
        "int walk(int)", "int pieces(int)", "long reach(int)", "long nearest(int,int,int,int,int)",
        "long distance(int,int,int,int)", "int certify(int)", "int check(int)", "int solve()", "int notes()",
        "long mark()", "int trail(int)", "long least(int)", "int sheet(int,int,int)", "int cell(int,int,long)",
        "long read(int,int)", "int copy(int,int,int,int,int)", "int image()", "int back()", "int count(int)"
    };
    private static final String[] CONSTANTS = {
        "int NONE=-1", "int BAD=-2", "int STATE=-3", "int FULL=-4", "int MUCH=-5", "int NOTHING=-11", "int PLACE=-12",
        "int KIND=-13", "int SIZE=-14", "long NO=-4611686018427387904"
    };

    public static void main(String[] args) throws Exception {
        Class<?> face = LeastInBounds.class;
        Due.isTrue("public and final", Modifier.isPublic(face.getModifiers()) && Modifier.isFinal(face.getModifiers()));
        methods(face);
        constants(face);
        constructors(face);
        for (Class<?> inside : face.getDeclaredClasses()) {
            int m = inside.getModifiers();
            Due.isTrue(inside + " is static", Modifier.isStatic(m));
            Due.isTrue(inside + " is private or package-visible", !Modifier.isPublic(m) && !Modifier.isProtected(m));
        }
        Due.end();
    }

    private static void methods(Class<?> face) {
        Set<String> found = new TreeSet<>();
        Set<String> names = new TreeSet<>();
        for (Method m : face.getDeclaredMethods()) {
            if (!Modifier.isPrivate(m.getModifiers())) {
                String types = Arrays.toString(Arrays.stream(m.getParameterTypes()).map(Class::getName).toArray());
                found.add(m.getReturnType() + " " + m.getName() + "(" + types.replaceAll("[\\[\\] ]", "") + ")");
                names.add(m.getName());
                Due.is(m + " is public alone", m.getModifiers(), Modifier.PUBLIC);
            }
        }
        Set<String> due = new TreeSet<>(Arrays.asList(METHODS));
        Due.isTrue("methods " + found + " are " + due, found.equals(due));
        for (Method m : face.getDeclaredMethods()) {
            if (Modifier.isPrivate(m.getModifiers())) {
                Due.isTrue(m + " bears no public name", !names.contains(m.getName()));
            }
        }
    }

    private static void constants(Class<?> face) throws Exception {
        Set<String> found = new TreeSet<>();
        for (Field f : face.getDeclaredFields()) {
            if (!Modifier.isPrivate(f.getModifiers())) {
                Due.is(f + " is a constant", f.getModifiers(), Modifier.PUBLIC | Modifier.STATIC | Modifier.FINAL);
                found.add(f.getType() + " " + f.getName() + "=" + f.get(null));
            }
        }
        Set<String> due = new TreeSet<>(Arrays.asList(CONSTANTS));
        Due.isTrue("constants " + found + " are " + due, found.equals(due));
    }

    private static void constructors(Class<?> face) {
        Constructor<?>[] all = face.getDeclaredConstructors();
        Due.is("one constructor", all.length, 1);
        Due.is("without arguments", all[0].getParameterCount(), 0);
        Due.isTrue("public", Modifier.isPublic(all[0].getModifiers()));
    }
}
