import java.nio.file.Files;
import java.nio.file.Path;
import java.util.Map;
import java.util.regex.Matcher;
import java.util.regex.Pattern;

/**
 * What of LANGUAGE.md can be read off the source's words, and its rule 5 off what calls leave in
 * static fields; run from the project's own folder.
 */
public final class LanguageTest {
    private static final Path SOURCE = Path.of("src/main/java/LeastInBounds.java");
    private static final String[] FORBIDDEN = {
        "\\bthrow\\b", "\\bthrows\\b", "\\btry\\b", "\\bcatch\\b", "\\bfinally\\b", "\\bsynchronized\\b", "\\bassert\\b",
        "->", "::", "\\bprotected\\b", "\\bnative\\b", "\\bvolatile\\b", "\\btransient\\b", "\\bpackage\\b", "\\bSystem\\.(?!arraycopy)",
        "\\w+Exact\\b", "\\bdouble\\b", "\\bfloat\\b", "\\bvar\\b", "\\bhashCode\\b", "\\btoString\\b", "\\bequals\\b",
        "\\bThread\\b", "\\bRandom\\b", "\\bjava\\.(?!util\\.Arrays;)", "static\\s*\\{", "@", "\\bwhile\\s*\\(true", "for\\s*\\(;;"
    };

    public static void main(String[] args) throws Exception {
        String text = Files.readString(SOURCE);
        Due.isTrue("plain signs alone", text.chars().allMatch(c -> c == '\n' || c >= 32 && c < 127));
        String code = text.replaceAll("(?s)/\\*.*?\\*/", "").replaceAll("//[^\n]*", "");
        for (String word : FORBIDDEN) {
            Matcher m = Pattern.compile(word).matcher(code);
            Due.isTrue("none of " + word, !m.find());
        }
        classes(code);
        methods(code);
        samplesOfRule5();
        rule5();
        Due.end();
    }

    private static int changesBy(StaticState state, Runnable calls) throws Exception {
        Map<String, String> before = state.held();
        calls.run();
        Map<String, String> after = state.held();
        int changes = 0;
        for (String field : before.keySet()) {
            if (!before.get(field).equals(after.get(field))) {
                changes++;
                System.out.println(field + " was " + before.get(field) + ", is " + after.get(field));
            }
        }
        return changes;
    }

    /** Nothing that a constructor or a call changes is held by a static field, or beneath one. */
    private static void rule5() throws Exception {
        StaticState state = new StaticState(LeastInBounds.class);
        int inside = LeastInBounds.class.getDeclaredClasses().length;
        Due.isTrue("5: all classes are looked at", state.size() > inside);
        Due.isTrue("5: static fields are constants: " + state.faults(), state.faults().isEmpty());
        LeastInBounds x = AllCalls.fullObject();
        LeastInBounds y = AllCalls.fullObject();
        Due.isTrue("5: the calls are asked where there is an answer", x.working(63) > 0);
        Due.is("5: static fields changed by calls", changesBy(state, () -> {
            AllCalls.askAll(x);
            AllCalls.askAll(y);
            x.size(1);
            AllCalls.askAll(x);
        }), 0);
        Due.is("5: static fields changed by new objects", changesBy(state, AllCalls::fullObject), 0);
    }

    private static void sample(Runnable one, boolean isFault, boolean isChanged) throws Exception {
        StaticState state = new StaticState(one.getClass());
        Map<String, String> before = state.held();
        one.run();
        Due.is("5: a fault of " + one.getClass(), state.faults().isEmpty() ? 0 : 1, isFault ? 1 : 0);
        Due.is("5: a change of " + one.getClass(), state.held().equals(before) ? 0 : 1, isChanged ? 1 : 0);
    }

    /** The test of rule 5 would fail for each of these but the first. */
    private static void samplesOfRule5() throws Exception {
        sample(new StaticSamples.Kept(), false, false);
        sample(new StaticSamples.OpenField(), true, true);
        sample(new StaticSamples.EnumThatNotes(), true, true);
        sample(new StaticSamples.ChangedRow(), false, true);
        sample(new StaticSamples.RowInAnEnum(), true, true);
        sample(new StaticSamples.SharedObject(), true, true);
        sample(new StaticSamples.SharedList(), true, true);
    }

    private static void classes(String code) {
        Matcher m = Pattern.compile("\\b(class|enum|interface|record) \\w+").matcher(code);
        int count = 0;
        while (m.find()) {
            count++;
        }
        Due.isTrue(count + " classes are at most 12", count >= 1 && count <= 12);
    }

    /** A method's head stands on one line, and its end is a brace at the same depth. */
    private static void methods(String code) {
        String[] lines = code.split("\n");
        Pattern head = Pattern.compile("^( +)(?:\\w+(?:\\[\\])* )*\\w+\\(([^()]*)\\) \\{$");
        int found = 0;
        for (int at = 0; at < lines.length; at++) {
            Matcher m = head.matcher(lines[at]);
            if (!m.matches() || lines[at].matches(" +(if|for|while|switch|\\} else).*")) {
                continue;
            }
            found++;
            int end = at + 1;
            while (end < lines.length && !lines[end].equals(m.group(1) + "}")) {
                end++;
            }
            Due.isTrue(lines[at].trim() + " is short", end - at <= 60);
            Due.isTrue(lines[at].trim() + " takes seven at most", m.group(2).split(",").length <= 7);
        }
        Due.isTrue(found + " methods were found", found > 60);
    }
}
