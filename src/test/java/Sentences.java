import java.nio.file.Files;
import java.nio.file.Path;
import java.util.ArrayList;
import java.util.LinkedHashMap;
import java.util.List;
import java.util.Map;
import java.util.regex.Matcher;
import java.util.regex.Pattern;

/**
 * Sentences of the document that name a boundary case, each with a test of its own. The words must
 * stand in the document as they are told here, and every word of the document that marks a boundary
 * must stand in one of the sentences told: so none is left without a test.
 */
final class Sentences {
    private static final Pattern MARKS = Pattern.compile(
        "\\b(NONE|BAD|STATE|FULL|MUCH|NOTHING|PLACE|SIZE)\\b|\\bKIND:|\\S+ \\.\\. -?\\w+|\\(-?\\d+[;)]"
        + "|\\bat (the )?most\\b|\\bat first\\b|\\bor more\\b|\\bno more\\b|\\bup to\\b|\\bwithout\\b"
        + "|\\b(least|last|first|only|empty|missing|none|above|below|less|greater|anew|ends|nothing|isn't|doesn't|aren't|hasn't|no)\\b");
    private static final String COUNTED = "What it is|Terms|Promise \\d+: .*";

    private final Map<String, String> sections = new LinkedHashMap<>();
    private final Map<String, boolean[]> covered = new LinkedHashMap<>();
    private final List<String> told = new ArrayList<>();
    private final List<String> broken = new ArrayList<>();
    private String heading = "";

    Sentences(Path document) throws Exception {
        for (String part : Files.readString(document).split("(?m)^## ")) {
            int end = part.indexOf('\n');
            String text = part.substring(end + 1).replaceAll("```\\w*", " ").replaceAll("`[^`]*`", " ").replaceAll("\\s+", " ");
            sections.put(part.substring(0, end).trim(), text);
            covered.put(part.substring(0, end).trim(), new boolean[text.length()]);
        }
    }

    /** The sentences told from here on stand under this heading. */
    void under(String heading) {
        this.heading = heading;
        Due.isTrue("the document has '" + heading + "'", sections.containsKey(heading));
    }

    void has(String words, Runnable test) {
        cover(words);
        told.add(heading + ", \"" + words + "\"");
        int asked = Due.asked();
        int wrong = Due.wrong();
        try {
            test.run();
        } catch (RuntimeException thrown) {
            Due.isTrue("no call throws, but " + thrown, false);
        }
        Due.isTrue("the test asks", Due.asked() > asked);
        if (Due.wrong() > wrong) {
            broken.add(told.get(told.size() - 1));
        }
    }

    private void cover(String words) {
        String text = sections.getOrDefault(heading, "");
        int at = text.indexOf(words);
        Due.isTrue("'" + words + "' stands under '" + heading + "'", at >= 0);
        while (at >= 0) {
            for (int k = at; k < at + words.length(); k++) {
                covered.get(heading)[k] = true;
            }
            at = text.indexOf(words, at + 1);
        }
    }

    /** What of the document marks a boundary and stands in no sentence told. */
    List<String> untold() {
        List<String> untold = new ArrayList<>();
        for (String section : sections.keySet()) {
            Matcher m = MARKS.matcher(section.matches(COUNTED) ? sections.get(section) : "");
            while (m.find()) {
                if (!covered.get(section)[m.start()] || !covered.get(section)[m.end() - 1]) {
                    int from = Math.max(0, m.start() - 30);
                    int to = Math.min(sections.get(section).length(), m.end() + 30);
                    untold.add(section + ": .. " + sections.get(section).substring(from, to) + " ..");
                }
            }
        }
        return untold;
    }

    List<String> told() {
        return told;
    }

    /** The sentences whose tests had an answer that isn't due. */
    List<String> broken() {
        return broken;
    }
}
