import java.io.IOException;
import java.nio.file.Files;
import java.nio.file.Path;
import java.util.ArrayList;
import java.util.List;

/**
 * All sentences of the document, each with a test of its own. The document itself is read, too, so that
 * no sentence of its terms and promises is without a test, and no test is for words that it does not say.
 */
public final class EdgesTest {
    private static final Path DOCUMENT = Path.of("../shared/DOC.md");
    private static final int PROMISES = 28;

    public static void main(String[] args) throws IOException {
        TermsEdges.all();
        InputTextEdges.all();
        LandEdges.all();
        LoafEdges.all();
        TextEdges.all();
        SnapshotEdges.all();
        LookEdges.all();
        WouldBeEdges.all();
        if (Files.exists(DOCUMENT)) {
            compareAll(Files.readString(DOCUMENT));
        } else {
            System.out.println("EdgesTest: there is no " + DOCUMENT + " to compare the sentences with");
        }
        Check.end("EdgesTest");
    }

    private static void compareAll(String document) {
        Check.at("the document");
        compare(Edges.TERMS, termsOf(document));
        for (int number = 1; number <= PROMISES; number++) {
            compare("Promise " + number, promiseOf(document, number));
        }
        Check.isTrue("it has a promise more", promiseOf(document, PROMISES + 1).isEmpty());
    }

    private static String between(String text, String first, String last) {
        int from = text.indexOf(first);
        int to = from < 0 ? -1 : text.indexOf(last, from + first.length());
        return from < 0 || to < 0 ? "" : text.substring(from + first.length(), to);
    }

    /** The terms without their headings and without the lines that tell the face's own headings. */
    private static String termsOf(String document) {
        StringBuilder terms = new StringBuilder(limitOfCalls(document));
        for (String line : between(document, "\n## Terms", "\n## Promise 1:").split("\n")) {
            boolean heading = line.startsWith("### ") || line.equals("Snapshots, undo");
            boolean faceOnly = line.startsWith("Ahead of") && !line.contains("nothing is changed");
            terms.append(heading || faceOnly ? "" : line).append('\n');
        }
        return terms.toString();
    }

    /** What later calls answer is free, so the sentence ends here with its first half. */
    private static String limitOfCalls(String document) {
        String begin = "An object is used for at most 512 calls";
        return begin + between(document, begin, "; what later calls answer") + "\n";
    }

    private static String promiseOf(String document, int number) {
        String section = between(document, "\n## Promise " + number + ":", "\n## ");
        int signature = section.indexOf("`:");
        return signature < 0 ? "" : section.substring(signature + 2);
    }

    private static void compare(String name, String section) {
        List<String> words = new ArrayList<>(Edges.named(name));
        words.sort((a, b) -> b.length() - a.length());
        String left = section;
        for (String word : words) {
            Check.isTrue(name + " does not say: " + word, section.contains(word));
            left = left.replace(word, " ");
        }
        String untested = left.replaceAll("[\\s.,;:-]+", " ").trim();
        Check.isTrue(name + " has words without a test: " + untested, untested.isEmpty() && !section.isEmpty());
    }
}
