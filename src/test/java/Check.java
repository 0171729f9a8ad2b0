import java.io.IOException;
import java.nio.charset.StandardCharsets;
import java.nio.file.Files;
import java.nio.file.Path;

/** Counts the answers that are not as due, and tells texts to a tower. */
final class Check {
    private static final Path DOCUMENT = Path.of("../shared/DOC.md");
    private static int wrong = 0;
    private static int asked = 0;
    private static String sentence = "";
    private static String document = null;

    private Check() {
    }

    static void due(String call, long got, long want) {
        asked++;
        if (got != want) {
            wrong++;
            if (wrong <= 50) {
                System.out.println(sentence + call + " answered " + got + ", due is " + want);
            }
        }
    }

    /** The answers that follow test these words of the document, which must stand in it. */
    static void sentence(String words) {
        sentence = "";
        due("the document says: " + words, document().isEmpty() || document().contains(words), true);
        sentence = "\"" + words + "\": ";
    }

    // Empty where the document is not at hand: the answers are due all the same.
    private static String document() {
        if (document == null) {
            try {
                document = Files.exists(DOCUMENT) ? Files.readString(DOCUMENT).replaceAll("\\s+", " ") : "";
            } catch (IOException e) {
                document = "";
            }
        }
        return document;
    }

    static void due(String call, boolean got, boolean want) {
        due(call, got ? 1 : 0, want ? 1 : 0);
    }

    static void finish(String name) {
        System.out.println(name + ": " + asked + " answers, " + wrong + " wrong");
        if (wrong != 0) {
            System.exit(1);
        }
    }

    /** Puts the text on the TAPE, which must be empty. */
    static void put(DeafBells x, String text) {
        byte[] bytes = text.getBytes(StandardCharsets.ISO_8859_1);
        int[] words = new int[(bytes.length + 19) / 20 * 5];
        for (int i = 0; i < words.length * 4; i++) {
            int sign = i < bytes.length ? bytes[i] & 255 : 32;
            words[i / 4] |= sign << 24 - i % 4 * 8;
        }
        for (int i = 0; i < words.length; i += 5) {
            due("feed for " + text, x.feed(words[i], words[i + 1], words[i + 2], words[i + 3], words[i + 4]), (i / 5 + 1) * 20);
        }
        due("end for " + text, x.end(bytes.length), true);
    }

    /** Tells TEXT k, which is due to have so many lines. */
    static void tell(DeafBells x, int k, String text, int lines) {
        put(x, text);
        due("text(" + k + ") of " + text, x.text(k), lines);
        due("fault(0) of " + text, x.fault(0), 0);
        due("fault(1) of " + text, x.fault(1), -1);
    }

    /** Tells TEXT k, which is due to have this FAULT at this place and to change nothing. */
    static void refused(DeafBells x, int k, String text, int fault, int place) {
        int lines = x.look(8 + k);
        put(x, text);
        due("text(" + k + ") of " + text, x.text(k), -1);
        due("fault(0) of " + text, x.fault(0), fault);
        due("fault(1) of " + text, x.fault(1), place);
        due("lines of text " + k + " behind " + text, x.look(8 + k), lines);
    }
}
