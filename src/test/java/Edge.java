import java.io.IOException;
import java.nio.charset.StandardCharsets;
import java.nio.file.Files;
import java.nio.file.Path;

/** One boundary that the document names, by the document's own words, with a test of its own. */
final class Edge {
    private static final Path DOCUMENT = Path.of("../shared/DOC.md");
    private static final String TEXT = document();

    interface Test {
        void run();
    }

    private Edge() {
    }

    private static String document() {
        try {
            return Files.readString(DOCUMENT, StandardCharsets.UTF_8);
        } catch (IOException e) {
            return "";
        }
    }

    /** Asks what a sentence says; one without an answer to look at is as wrong as one with a wrong answer. */
    static void of(String sentence, Test test) {
        // A document that is written anew makes words stale, not the class wrong: that is told, and no more.
        if (!TEXT.isEmpty() && !TEXT.contains(sentence)) {
            System.out.println("the document does not say any more: " + sentence);
        }
        int askedBefore = Check.asked();
        int wrongBefore = Check.wrong();
        try {
            test.run();
        } catch (RuntimeException | StackOverflowError e) {
            Check.due("nothing thrown, but " + e, 1, 0);
        }
        if (Check.asked() == askedBefore) {
            Check.due("answers that were looked at", 0, 1);
        }
        if (Check.wrong() != wrongBefore) {
            System.out.println("  which breaks: " + sentence);
        }
    }
}
