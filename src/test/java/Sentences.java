import java.io.IOException;
import java.nio.file.Files;
import java.nio.file.Path;
import java.util.List;

/**
 * Holds sentences of the document, one after the other, against objects with a past. Every answer is asked of
 * an object of its own; a refused call is also held to have changed nothing.
 */
final class Sentences {
    private static final Path DOCUMENT = Path.of("../shared/DOC.md");

    interface Ask {
        long of(DawnEights x, int value);
    }

    private final Check check = new Check();
    private final String document = readDocument();
    private String sentence = "";
    private Clubs.Past past = Clubs::fresh;

    private static String readDocument() {
        try {
            return Files.exists(DOCUMENT) ? plain(Files.readString(DOCUMENT)) : "";
        } catch (IOException unread) {
            return "";
        }
    }

    private static String plain(String text) {
        return text.replace("```text", " ").replace("```", " ").replaceAll("\\s+", " ");
    }

    /** The sentence that the next answers are held to; it must stand in the document so. */
    Sentences says(String text) {
        sentence = text;
        past = Clubs::fresh;
        if (!document.isEmpty()) {
            check.isTrue("the document says '" + text + "'", document.contains(plain(text)));
        }
        return this;
    }

    /** What has been called on each object ahead of the next calls. */
    Sentences given(Clubs.Past lived) {
        past = lived;
        return this;
    }

    Sentences due(String call, long got, long want) {
        check.due("'" + sentence + "': " + call, got, want);
        return this;
    }

    /** The call, or the last one of several, answers so. */
    Sentences answers(String call, long want, Twins.Call asked) {
        DawnEights x = new DawnEights();
        past.live(x);
        return due(call, asked.of(x), want);
    }

    /** One call is refused so, and changes nothing. */
    Sentences refuses(String call, long want, Twins.Call asked) {
        answers(call, want, asked);
        return due(call + " changed something: told by probe", Twins.toldApartBy(past, List.of(asked)), -1);
    }

    /** Each of the values is taken: the same answer is due. */
    Sentences takes(String what, long want, Ask ask, int... values) {
        for (int value : values) {
            answers(what + " " + value, want, x -> ask.of(x, value));
        }
        return this;
    }

    /** Each of the values is refused, and none changes anything. */
    Sentences refusesAll(String what, long want, Ask ask, int... values) {
        for (int value : values) {
            refuses(what + " " + value, want, x -> ask.of(x, value));
        }
        return this;
    }

    void end(String name) {
        if (document.isEmpty()) {
            System.out.println("the sentences were not looked up: there is no " + DOCUMENT);
        }
        check.end(name);
    }
}
