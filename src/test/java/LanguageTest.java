import java.nio.file.Files;
import java.nio.file.Path;
import java.util.regex.Matcher;
import java.util.regex.Pattern;

/** What of LANGUAGE.md can be read off the source's words; run from the project's own folder. */
public final class LanguageTest {
    private static final Path SOURCE = Path.of("src/main/java/LeastInBounds.java");
    private static final String[] FORBIDDEN = {
        "\\bthrow\\b", "\\bthrows\\b", "\\btry\\b", "\\bcatch\\b", "\\bfinally\\b", "\\bsynchronized\\b", "\\bassert\\b",
        "->", "::", "\\bprotected\\b", "\\bnative\\b", "\\bvolatile\\b", "\\btransient\\b", "\\bpackage\\b", "\\bSystem\\.(?!arraycopy)",
        "\\w+Exact\\b", "\\bdouble\\b", "\\bfloat\\b", "\\bvar\\b", "\\bhashCode\\b", "\\btoString\\b", "\\bequals\\b",
        "\\bThread\\b", "\\bRandom\\b", "\\bjava\\.(?!util\\.Arrays;)", "static\\s*\\{", "@", "\\bwhile\\s*\\(true", "for\\s*\\(;;"
    };

    public static void main(String[] args) throws Exception {
        String text = Files.readString(SOURCE);
        Due.isTrue("plain signs alone", text.chars().allMatch(c -> c == '\n' || c >= 32 && c < 127));
        String code = text.replaceAll("(?s)/\\*.*?\\*/", "").replaceAll("//[^\n]*", "");
        for (String word : FORBIDDEN) {
            Matcher m = Pattern.compile(word).matcher(code);
            Due.isTrue("none of " + word, !m.find());
        }
        classes(code);
        methods(code);
        Due.end();
    }

    private static void classes(String code) {
        Matcher m = Pattern.compile("\\b(class|enum|interface|record) \\w+").matcher(code);
        int count = 0;
        while (m.find()) {
            count++;
        }
        Due.isTrue(count + " classes are at most 12", count >= 1 && count <= 12);
    }

    /** A method's head stands on one line, and its end is a brace at the same depth. */
    private static void methods(String code) {
        String[] lines = code.split("\n");
        Pattern head = Pattern.compile("^( +)(?:\\w+(?:\\[\\])* )*\\w+\\(([^()]*)\\) \\{$");
        int found = 0;
        for (int at = 0; at < lines.length; at++) {
            Matcher m = head.matcher(lines[at]);
            if (!m.matches() || lines[at].matches(" +(if|for|while|switch|\\} else).*")) {
                continue;
            }
            found++;
            int end = at + 1;
            while (end < lines.length && !lines[end].equals(m.group(1) + "}")) {
                end++;
            }
            Due.isTrue(lines[at].trim() + " is short", end - at <= 60);
            Due.isTrue(lines[at].trim() + " takes seven at most", m.group(2).split(",").length <= 7);
        }
        Due.isTrue(found + " methods were found", found > 60);
    }
}
