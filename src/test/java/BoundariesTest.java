import java.nio.file.Path;

/**
 * Every sentence of the document that names a boundary case (too small, too large, empty, full, a
 * wrap-around, a refused call) has a test of its own here; run from the project's own folder.
 */
public final class BoundariesTest {
    private static final Path DOCUMENT = Path.of("../shared/DOC.md");

    public static void main(String[] args) throws Exception {
        Sentences told = all();
        for (String broken : told.broken()) {
            System.out.println("broken: " + broken);
        }
        for (String mark : told.untold()) {
            Due.isTrue("it is in a sentence with a test: " + mark, false);
        }
        Due.end();
    }

    static Sentences all() throws Exception {
        Sentences told = new Sentences(DOCUMENT);
        BoundsOfTerms.tell(told);
        BoundsOfMoreTerms.tell(told);
        BoundsOfBowl.tell(told);
        BoundsOfAnswers.tell(told);
        BoundsOfWalk.tell(told);
        BoundsOfCertificates.tell(told);
        BoundsOfBook.tell(told);
        BoundsOfSheets.tell(told);
        return told;
    }
}
