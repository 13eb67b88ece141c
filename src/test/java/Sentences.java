import java.io.IOException;
import java.nio.charset.StandardCharsets;
import java.nio.file.Files;
import java.nio.file.Path;

/**
 * Holds boundary tests to the document: each names, word by word, the sentence that it tests, and
 * a sentence that the document does not say is a failure.
 */
final class Sentences {
    private static final String USUAL_PLACE = "../shared/DOC.md";

    private final Check check;
    private final String document;
    private String sentence = "";

    Sentences(String test, String[] args) throws IOException {
        check = new Check(test);
        Path place = Path.of(args.length > 1 ? args[1] : USUAL_PLACE);
        document = Files.readString(place, StandardCharsets.UTF_8).replaceAll("\\s+", " ");
    }

    void says(String words) {
        sentence = words;
        check.holds("the document says \"" + words + "\"", document.contains(words));
    }

    void due(String call, long got, long want) {
        check.due("\"" + sentence + "\": " + call, got, want);
    }

    void holds(String what, boolean truth) {
        due(what, truth ? 1 : 0, 1);
    }

    void end() {
        check.end();
    }
}
