import java.io.IOException;
import java.nio.file.Files;
import java.nio.file.Path;
import java.util.function.Supplier;
import java.util.function.ToIntFunction;

/**
 * The document's boundary cases. Each is named by its promise, the sentence, in the document's own
 * words, and the case; a sentence that the document does not have, or one without an answer that
 * is looked at, is a fault of the tests and counted as one.
 */
final class Edges {
    private static final Path DOCUMENT = Path.of("..", "shared", "DOC.md");
    private static final int PROMISES = 21;

    private final Checks checks = new Checks();
    private final int[] cases = new int[PROMISES + 1];
    private final String document;
    private int promise;
    private String sentence = "";
    private String name = "";
    private int askedBefore;
    private int casesOfSentence;
    private int sentences;

    Edges() throws IOException {
        document = Files.exists(DOCUMENT) ? Files.readString(DOCUMENT) : "";
        if (document.isEmpty()) {
            System.out.println("no " + DOCUMENT + ": the sentences are not looked up");
        }
    }

    /** What follows tests these words of a promise, or of the terms that it uses. */
    void sentence(int ofPromise, String words) {
        endSentence();
        promise = ofPromise;
        sentence = words;
        casesOfSentence = 0;
        sentences++;
        checks.holds("the document has, for promise " + promise + ": " + words, isTold(words));
    }

    /** The case of the sentence that the next answers are about. */
    void at(String which) {
        endCase();
        name = which;
        askedBefore = checks.asked();
        casesOfSentence++;
        cases[promise]++;
    }

    void due(String call, long got, long want) {
        checks.due("promise " + promise + ", \"" + sentence + "\", " + name + ": " + call, got, want);
    }

    void holds(String what, boolean is) {
        due(what, is ? 1 : 0, 1);
    }

    /** A refused call: its answer, and that the object is as one that was not called so. */
    void refused(String call, Supplier<TalkBus> made, ToIntFunction<TalkBus> calling, int want) {
        TalkBus x = made.get();
        due(call, calling.applyAsInt(x), want);
        holds(call + " changes nothing", Checks.stateOf(x).equals(Checks.stateOf(made.get())));
        TalkBus later = made.get();
        calling.applyAsInt(later);
        TalkBus other = made.get();
        // Who is prepared is not told by any call; a command that looks at it tells.
        due(call + " ahead of command(99)", later.command(99), other.command(99));
        holds(call + " changes nothing of what command(99) does",
            Checks.stateOf(later).equals(Checks.stateOf(other)));
    }

    void end(String test) {
        endSentence();
        int all = 0;
        for (int p = 1; p <= PROMISES; p++) {
            checks.holds("promise " + p + " has cases", cases[p] > 0);
            all += cases[p];
        }
        System.out.println(test + ": " + sentences + " sentences, " + all + " cases");
        checks.end(test);
    }

    private void endCase() {
        if (casesOfSentence > 0) {
            checks.holds("an answer is looked at in: " + sentence + ", " + name,
                checks.asked() > askedBefore);
        }
    }

    private void endSentence() {
        endCase();
        checks.holds("a case stands for: " + sentence, sentences == 0 || casesOfSentence > 0);
    }

    private boolean isTold(String words) {
        return document.isEmpty() || plain(sectionOf("## Promise " + promise + ":")).contains(plain(words))
            || plain(sectionOf("## Terms")).contains(plain(words));
    }

    private String sectionOf(String heading) {
        int start = document.indexOf(heading);
        if (start < 0) {
            return "";
        }
        int end = document.indexOf("\n## ", start);
        return end < 0 ? document.substring(start) : document.substring(start, end);
    }

    private static String plain(String text) {
        return text.replaceAll("\\s+", " ");
    }
}
