import java.io.IOException;
import java.nio.charset.StandardCharsets;
import java.nio.file.Files;
import java.nio.file.Path;
import java.util.TreeSet;

/**
 * Tests that each stand for one sentence of the document: a test quotes its sentence, and the quotation has to
 * stand where it says, under its promise's number (0: ahead of promise 1).
 */
final class Sentences {
    private static final Path DOCUMENT = Path.of("..", "shared", "DOC.md");

    interface Body {
        void run();
    }

    private final Check check;
    private final String[] parts;
    private final TreeSet<Integer> seen = new TreeSet<>();
    private int tests;

    Sentences(Check check) {
        this.check = check;
        this.parts = parts();
    }

    private static String[] parts() {
        try {
            return Files.readString(DOCUMENT, StandardCharsets.UTF_8).split("\n## (Promise \\d+: |Not promised)");
        } catch (IOException e) {
            throw new IllegalStateException("no document at " + DOCUMENT, e);
        }
    }

    void test(int promise, String sentence, Body body) {
        tests++;
        seen.add(promise);
        check.under("promise " + promise + ", \"" + sentence + "\": ");
        check.due("does the document say so", parts[promise].contains(sentence) ? 1 : 0, 1);
        try {
            body.run();
        } catch (RuntimeException e) {
            check.due("the test", e.toString(), "no throw");
        }
        check.under("");
    }

    /** Each promise from the first to the last that is told has a test. */
    void needAll(int first, int last) {
        for (int promise = first; promise <= last; promise++) {
            check.due("promise " + promise + " has a test", seen.contains(promise) ? 1 : 0, 1);
        }
        System.out.println(tests + " sentences");
    }
}
