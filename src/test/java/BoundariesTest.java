import java.io.IOException;

/**
 * The boundaries: each sentence of the document that names one has tests of its own here, which tell
 * of which promise and which sentence they are. The document's file is the only argument.
 */
public final class BoundariesTest {
    private BoundariesTest() {
    }

    public static void main(String[] args) throws IOException {
        if (wrong(args.length > 0 ? args[0] : "../shared/DOC.md") != 0) {
            System.exit(1);
        }
    }

    /** How much is wrong. */
    static int wrong(String document) throws IOException {
        Sentences.read(document);
        BoundariesOfTerms.all();
        BoundariesOfTheLine.all();
        BoundariesOfTexts.all();
        BoundariesOfLoads.all();
        BoundariesOfPlans.all();
        BoundariesOfReadings.all();
        BoundariesOfSheets.all();
        return Runs.end();
    }
}
