import java.util.NoSuchElementException;
import java.util.function.LongSupplier;

/** Counts the answers of a test that are not as due, and types texts. */
final class Checks {
    private int made = 0;
    private int wrong = 0;
    private String sentence = "";

    /** The sentence of the document by which the answers from here on are due. */
    void says(String sentence) {
        this.sentence = sentence + "\n    ";
    }

    void due(String what, long got, long want) {
        made++;
        if (got != want) {
            tellWrong(what + " answered " + got + ", due is " + want);
        }
    }

    void due(String what, String got, String want) {
        made++;
        if (!got.equals(want)) {
            tellWrong(what + " answered " + got + ", due is " + want);
        }
    }

    private void tellWrong(String text) {
        wrong++;
        System.out.println(sentence + text);
    }

    void due(String what, boolean got, boolean want) {
        due(what, got ? 1 : 0, want ? 1 : 0);
    }

    void dueMissing(String what, LongSupplier call) {
        made++;
        try {
            tellWrong(what + " answered " + call.getAsLong() + ", due is NoSuchElementException");
        } catch (NoSuchElementException e) {
            return;
        }
    }

    void dueFull(String what, LongSupplier call) {
        made++;
        try {
            tellWrong(what + " answered " + call.getAsLong() + ", due is IllegalStateException");
        } catch (IllegalStateException e) {
            return;
        }
    }

    void end() {
        System.out.println(made + " answers, " + wrong + " of them not as due");
        if (wrong != 0) {
            System.exit(1);
        }
    }

    static long word(String text) {
        long word = 0;
        for (int i = 0; i < text.length(); i++) {
            word = word << 8 | text.charAt(i);
        }
        return word;
    }

    static boolean type(LiveQueries x, String text) {
        boolean all = true;
        for (int i = 0; i < text.length(); i += 8) {
            String part = text.substring(i, Math.min(i + 8, text.length()));
            all &= x.type(word(part), part.length());
        }
        return all;
    }

    static int ask(LiveQueries x, String text) {
        if (!type(x, text)) {
            throw new AssertionError("not typed: " + text);
        }
        return x.query();
    }
}
