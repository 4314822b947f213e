import java.io.IOException;
import java.nio.file.Files;
import java.nio.file.Path;
import java.util.ArrayList;
import java.util.List;
import java.util.function.Supplier;
import java.util.function.ToLongFunction;

/**
 * A sentence of the document, with the number of the promise that it belongs to (HEAD: it stands ahead
 * of them). What is not as due is printed with both, and covered() sees to it that no words are left out.
 */
final class Sentence {
    private static final Path DOCUMENT = Path.of("..", "shared", "DOC.md");
    private static final int PROMISES = 22;
    /** In place of a promise's number: 'What it is' and 'Terms'. */
    static final int HEAD = 0;
    private static final List<Sentence> ALL = new ArrayList<>();

    private final int promise;
    private final String words;

    Sentence(int promise, String words) {
        this.promise = promise;
        this.words = words;
        ALL.add(this);
    }

    void due(String call, long got, long want) {
        Check.due(told(call), got, want);
    }

    void due(String call, String got, String want) {
        Check.due(told(call), got, want);
    }

    /** The call is refused, and changes nothing: an object that never got it answers all alike. */
    void refused(String call, Supplier<FollowScore> made, ToLongFunction<FollowScore> ask, long want) {
        FollowScore asked = made.get();
        due(call, ask.applyAsLong(asked), want);
        due(call + " changes nothing", Sight.of(asked), Sight.of(made.get()));
    }

    private String told(String call) {
        return where(promise) + ", '" + words + "': " + call;
    }

    /** Each sentence stands in the document, and those of these promises are there with all words. */
    static void covered(int firstPromise, int lastPromise) throws IOException {
        if (!Files.exists(DOCUMENT)) {
            System.out.println("no " + DOCUMENT + ": the sentences are not looked up");
            return;
        }
        String document = plain(Files.readString(DOCUMENT));
        for (Sentence sentence : ALL) {
            String text = terms(document) + section(document, sentence.promise);
            Check.isTrue(sentence.told("stands in the document"), text.contains(plain(sentence.words)));
        }
        for (int promise = firstPromise; promise <= lastPromise; promise++) {
            Check.due(where(promise) + ": words without a test", left(document, promise), "");
        }
    }

    private static String where(int promise) {
        return promise == HEAD ? "ahead of promise 1" : "promise " + promise;
    }

    private static String plain(String text) {
        return text.replace("```text", " ").replace("```", " ").replaceAll("\\s+", " ");
    }

    private static String terms(String document) {
        return document.substring(0, document.indexOf("## Promise 1:"));
    }

    private static String part(String document, String heading, String next) {
        return document.substring(document.indexOf(heading) + heading.length(), document.indexOf(next));
    }

    private static String section(String document, int promise) {
        if (promise == HEAD) {
            return part(document, "## What it is", "## The public face") + part(document, "## Terms", "## Promise 1:");
        }
        int from = document.indexOf("## Promise " + promise + ":");
        String behind = promise < PROMISES ? "## Promise " + (promise + 1) + ":" : "## Not promised";
        String whole = document.substring(from, document.indexOf(behind));
        return whole.substring(whole.indexOf("`: ") + 3);
    }

    /** What no sentence of this promise says again. */
    private static String left(String document, int promise) {
        String section = section(document, promise);
        boolean[] said = new boolean[section.length()];
        for (Sentence sentence : ALL) {
            if (sentence.promise == promise) mark(section, plain(sentence.words), said);
        }
        StringBuilder left = new StringBuilder();
        for (int i = 0; i < said.length; i++) left.append(said[i] ? ' ' : section.charAt(i));
        return left.toString().replaceAll("[\\s.,;:]+", " ").trim();
    }

    private static void mark(String section, String words, boolean[] said) {
        for (int at = section.indexOf(words); at >= 0; at = section.indexOf(words, at + 1)) {
            for (int i = 0; i < words.length(); i++) said[at + i] = true;
        }
    }
}
