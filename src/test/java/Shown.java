/**
 * All that calls show of an object, as a text: if two objects' texts are alike, nothing that a call
 * could tell is unlike in them. Reading changes the object: it is of no use afterwards.
 */
final class Shown {
    private static final long NO_INT = 1L << 40;

    private Shown() {
    }

    static String of(LeastInBounds x) {
        StringBuilder text = new StringBuilder();
        addBook(x, text);
        addSheets(x, text);
        addBowl(x, text.append("\nnow:"));
        text.append("\nimage: ").append(x.back());
        addBowl(x, text);
        return text.toString();
    }

    private static void addBook(LeastInBounds x, StringBuilder text) {
        text.append("book: ").append(x.notes()).append(' ').append(x.mark());
        for (int k = 0; k < 8; k++) {
            text.append(' ').append(x.trail(k));
        }
        text.append(' ').append(x.least(0)).append(' ').append(x.least(1));
    }

    private static void addSheets(LeastInBounds x, StringBuilder text) {
        for (int s = 0; s < 4; s++) {
            text.append("\nsheet ").append(s).append(':');
            for (int i = 0; i <= 12; i++) {
                text.append(' ').append(x.read(s, i));
            }
            for (int other = 0; other < 4; other++) {
                text.append(" / ").append(x.copy(s, 0, other, 0, 0));
            }
        }
        for (int s = 0; s < 4; s++) {
            text.append(" ints ").append(x.cell(s, 0, NO_INT));
        }
    }

    private static void addBowl(LeastInBounds x, StringBuilder text) {
        int n = x.count(0);
        int lines = x.count(1);
        text.append(' ').append(n).append(' ').append(lines).append(' ').append(x.count(2));
        for (int i = 0; i < n; i++) {
            text.append(" c ").append(x.push(i, 0)).append(" q");
            for (int j = i; j < n; j++) {
                text.append(' ').append(x.bend(i, j, 1));
            }
        }
        for (int l = 0; l < lines; l++) {
            text.append(" line");
            for (int what = 0; what < 3; what++) {
                text.append(' ').append(x.lineOf(l, what));
            }
            for (int i = 0; i < 3; i++) {
                text.append(' ').append(x.slope(l, i, 0));
            }
        }
    }
}
