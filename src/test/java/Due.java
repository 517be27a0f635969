import java.io.IOException;
import java.nio.file.Files;
import java.nio.file.Path;

/** Counts the answers that are not as due, prints them, and ends the test. */
final class Due {
    private static final Path DOCUMENT = Path.of("../shared/DOC.md");

    private int asked = 0;
    private int wrong = 0;
    private String sentence = "";

    /** The sentence of the document that the next answers hold; it has to stand there word by word. */
    void sentence(String words) {
        sentence = words;
        so("the document says so", isInTheDocument(words));
    }

    /** The document is not a part of the project: where it is not at hand, it is not asked. */
    private static boolean isInTheDocument(String words) {
        try {
            return !Files.exists(DOCUMENT) || Files.readString(DOCUMENT).contains(words);
        } catch (IOException e) {
            return false;
        }
    }

    void is(String call, long got, long want) {
        held(got == want, call + " answered " + got + ", due is " + want);
    }

    void real(String call, double got, double want) {
        held(got == want, call + " answered " + got + ", due is " + want);
    }

    void same(String call, String got, String want) {
        held(got.equals(want), call + " answered\n  " + got + ", due is\n  " + want);
    }

    void so(String what, boolean holds) {
        held(holds, what + " does not hold");
    }

    private void held(boolean holds, String otherwise) {
        asked++;
        if (!holds) {
            wrong++;
            System.out.println(sentence.isEmpty() ? otherwise : "'" + sentence + "': " + otherwise);
        }
    }

    void end() {
        System.out.println(asked - wrong + " of " + asked + " answers are as due");
        if (wrong != 0 || asked == 0) {
            System.exit(1);
        }
    }
}
