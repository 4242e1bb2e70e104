import java.io.IOException;
import java.nio.file.Files;
import java.nio.file.Path;
import java.util.LinkedHashSet;
import java.util.Set;

/** The object that is tried, and calls on it together with the answers that are due. */
abstract class Trial {
    static final int NONE = -1;
    static final int TAKEN = 0;
    static final int DEFINED = 1;
    static final int ADDED = 10;
    static final int SYNTAX = -1;
    static final int UNDEFINED = -2;
    static final int SEGMENT = -3;
    static final int LIMIT = -4;
    static final int MASKED = -5;
    static final int REFUSED = -6;
    static final int NO_MATCH = 0;
    static final int MATCH = 1;
    static final int PENDING = 2;

    static final String ALPHABET = "abcdefghijklmnopqrstuvwxyz";
    static final String TWELVE = "abcdefghijkl";
    static final String THIRTEEN = "abcdefghijklm";

    static final Due due = new Due();
    static Counted x = new Counted();

    private static final Set<String> quotes = new LinkedHashSet<>();

    static void on(String heading) {
        due.heading(heading);
        fresh();
    }

    /** What follows tries this sentence of the document, on a new object. */
    static void sentence(String promise, String words) {
        quotes.add(words);
        on(promise + ", \"" + words + "\"");
    }

    static void fresh() {
        x = new Counted();
    }

    /** For loops with more calls than one object has. */
    static void freshWhenUsed() {
        if (x.calls() > Counted.MOST_CALLS - 100) {
            fresh();
        }
    }

    /** Types the characters, each of which is due to be taken. */
    static void type(String characters) {
        for (char c : characters.toCharArray()) {
            due.same("code of '" + c + "' in " + characters, x.code(c), TAKEN);
        }
    }

    static void state(String words, int answer) {
        type(words);
        due.same(words + ";", x.code(';'), answer);
    }

    /** The same for each of them on an object of its own. */
    static void eachAlone(int answer, String... statements) {
        for (String words : statements) {
            fresh();
            state(words, answer);
        }
    }

    static void write(String letters) {
        for (char c : letters.toCharArray()) {
            due.same("write " + c, x.write(c), true);
        }
    }

    /** The text with '|' where the cursor is. */
    static String seen() {
        StringBuilder words = new StringBuilder();
        int length = x.length();
        int cursor = x.cursor();
        for (int n = 0; n <= length; n++) {
            if (n == cursor) {
                words.append('|');
            }
            if (n < length) {
                words.append((char) x.letter(n));
            }
        }
        return words.toString();
    }

    static void shows(String text) {
        due.same("text and cursor", seen(), text);
    }

    static void settles(int applied, String text) {
        due.same("settle", x.settle(), applied);
        shows(text);
    }

    static void finishes(int applied, String text) {
        due.same("finish", x.finish(), applied);
        shows(text);
    }

    static void probes(int rule, int growing, int last) {
        due.same("probe(" + rule + ", false)", x.probe(rule, false), growing);
        due.same("probe(" + rule + ", true)", x.probe(rule, true), last);
    }

    static void counts(int applied, int latest, boolean stuck) {
        due.same("applied", x.applied(), applied);
        due.same("latest", x.latest(), latest);
        due.same("stuck", x.stuck(), stuck);
    }

    static String times(String letters, int count) {
        return letters.repeat(count);
    }

    /** As after restart: nothing is there and nothing is to be done. */
    static void restarted() {
        shows("|");
        due.same("length", x.length(), 0);
        due.same("cursor", x.cursor(), 0);
        counts(0, NONE, false);
        due.same("letter(0)", x.letter(0), 0);
        due.same("settle", x.settle(), 0);
        due.same("finish", x.finish(), 0);
    }

    /** Writes a text with the cursor in it, on an object without rules, which moves it up to there. */
    static void place(String text, int cursor) {
        write(text.substring(0, cursor));
        x.finish();
        write(text.substring(cursor));
    }

    /** What comes of matching one rule in a text, while the text may still grow and as the last word. */
    static void matches(String rule, String text, int cursor, int growing, int last) {
        fresh();
        place(text, cursor);
        type(rule);
        String where = rule + " in " + text + " at " + cursor;
        due.same(rule + ";", x.code(';'), ADDED);
        due.same(where + ", still growing", x.probe(0, false), growing);
        due.same(where + ", as the last word", x.probe(0, true), last);
    }

    /** What rules, with spaces between them, make of a text at last. */
    static void becomes(String rules, String text, String made) {
        fresh();
        int number = 0;
        for (String rule : rules.split(" ")) {
            state(rule, ADDED + number);
            number++;
        }
        write(text);
        x.finish();
        due.same(text + " by " + rules, seen(), made);
    }

    /** With the path of the document, looks also whether the sentences are the document's. */
    static void end(String[] args) throws IOException {
        if (args.length > 0) {
            String document = Files.readString(Path.of(args[0])).replaceAll("\\s+", " ");
            for (String words : quotes) {
                due.same("the document says: " + words, document.contains(words), true);
            }
        }
        due.end();
    }
}
