import java.util.Map;
import java.util.Random;
import java.util.TreeMap;

/** Runs of calls, the same ones every time, on the program and on the model. */
public final class ModelTest {
    private static final int RUNS = 4000;
    private static final int CALLS = 512;

    private static final Due due = new Due();
    private static final Map<String, Integer> seen = new TreeMap<>();

    private final Random dice;
    private final Counted program = new Counted();
    private final Model model = new Model();
    private final StringBuilder told = new StringBuilder();
    private final String letters;
    private int calls = 0;

    private ModelTest(int seed) {
        dice = new Random(seed);
        letters = dice.nextInt(3) == 0 ? "ab" : dice.nextInt(8) == 0 ? "abcdyz" : "abc";
    }

    private boolean chance(int percent) {
        return dice.nextInt(100) < percent;
    }

    private char oneOf(String characters) {
        return characters.charAt(dice.nextInt(characters.length()));
    }

    private void element(StringBuilder words) {
        int kind = dice.nextInt(20);
        if (kind < 10) {
            words.append(oneOf(letters));
        } else if (kind < 12) {
            words.append('.');
        } else if (kind < 15) {
            words.append(oneOf(chance(90) ? "AB" : "ABCXYZ"));
        } else {
            words.append('[').append(chance(30) ? "^" : "");
            for (int n = dice.nextInt(2); n >= 0; n--) {
                char from = oneOf(letters);
                words.append(from);
                if (chance(30)) {
                    words.append('-').append(chance(95) ? (char) (from + dice.nextInt('z' - from + 1)) : oneOf(letters));
                }
            }
            words.append(']');
        }
    }

    private void items(StringBuilder words, int count) {
        for (int n = 0; n < count; n++) {
            element(words);
            if (chance(25)) {
                words.append(oneOf("*+?"));
            }
        }
    }

    private void key(StringBuilder words) {
        for (int n = chance(4) ? 3 : dice.nextInt(2); n >= 0; n--) {
            boolean isSegment = chance(50);
            words.append(isSegment ? "(" : "");
            items(words, chance(97) ? 1 + dice.nextInt(2) : dice.nextInt(8));
            words.append(isSegment ? ")" : "");
        }
    }

    private void replacement(StringBuilder words) {
        int count = chance(3) ? 11 + dice.nextInt(3) : dice.nextInt(4);
        int mark = chance(50) ? dice.nextInt(count + 1) : -1;
        for (int n = 0; n <= count; n++) {
            words.append(n == mark ? "|" : "");
            if (n < count) {
                words.append(oneOf(chance(60) ? letters : chance(80) ? "1" : "123"));
            }
        }
    }

    private String statement() {
        StringBuilder words = new StringBuilder();
        if (chance(15)) {
            words.append(oneOf("ABC")).append('=');
            element(words);
        } else {
            if (chance(25)) {
                items(words, dice.nextInt(3));
                words.append('{');
            }
            key(words);
            if (chance(25)) {
                words.append('}');
                items(words, dice.nextInt(3));
            }
            words.append('>');
            replacement(words);
        }
        if (chance(10)) {
            words.insert(dice.nextInt(words.length() + 1), oneOf("ab1234AB.[]^-(){}*+?|>= #~"));
        }
        if (chance(5)) {
            words.deleteCharAt(dice.nextInt(words.length()));
        }
        if (chance(1)) {
            words.append("abcdefghijklmnopqrstuvwxyzabcdefghijklmnopqrstuvwxyz");
        }
        return words.append(';').toString();
    }

    private void compare(String call, int got, int asked) {
        calls++;
        told.append(call).append(" -> ").append(asked).append('\n');
        seen.merge(call.replaceAll("\\(.*", "") + " " + (asked > 13 ? "many" : asked), 1, Integer::sum);
        due.same(call, got, asked);
    }

    private void type(String characters) {
        for (char c : characters.toCharArray()) {
            compare("code(" + c + ")", program.code(c), model.code(c));
        }
    }

    private void writeLetters() {
        for (int n = chance(10) ? 30 : dice.nextInt(6); n >= 0; n--) {
            char c = chance(98) ? oneOf(letters) : oneOf("A`{ ;1");
            compare("write(" + c + ")", program.write(c) ? 1 : 0, model.write(c) ? 1 : 0);
        }
    }

    private void look() {
        compare("rules", program.rules(), model.rules());
        compare("length", program.length(), model.length());
        compare("cursor", program.cursor(), model.cursor());
        compare("applied", program.applied(), model.applied());
        compare("latest", program.latest(), model.latest());
        compare("stuck", program.stuck() ? 1 : 0, model.stuck() ? 1 : 0);
        for (int n = 0; n < model.length(); n++) {
            compare("letter(" + n + ")", program.letter(n), model.letter(n));
        }
    }

    private void probeRules() {
        for (int n = 0; n <= model.rules(); n++) {
            boolean last = chance(50);
            compare("probe(" + n + ", " + last + ")", program.probe(n, last), model.probe(n, last));
        }
    }

    private void oneMove() {
        int kind = dice.nextInt(100);
        if (kind < 10) {
            type(statement());
        } else if (kind < 45) {
            writeLetters();
        } else if (kind < 65) {
            compare("settle", program.settle(), model.rewrite(false));
        } else if (kind < 75) {
            compare("finish", program.finish(), model.rewrite(true));
        } else if (kind < 90) {
            probeRules();
        } else if (kind < 92) {
            program.restart();
            model.restart();
            compare("restart, cursor", program.cursor(), model.cursor());
        } else if (kind < 93 && chance(30)) {
            program.forget();
            model.forget();
            compare("forget, rules", program.rules(), model.rules());
        } else {
            look();
        }
    }

    private void run(int number) {
        due.heading("run " + number);
        // Most runs have their capital letters, or nearly all rules with one would be refused.
        if (chance(70)) {
            type("A=[" + letters + "]; B=[^" + oneOf(letters) + "];");
        }
        for (int n = chance(5) ? 12 : dice.nextInt(6); n >= 0; n--) {
            type(statement());
        }
        // The last move and the last look may take some 170 calls.
        while (calls < CALLS - 180) {
            oneMove();
        }
        look();
    }

    public static void main(String[] args) {
        for (int number = 0; number < RUNS && due.wrong() == 0; number++) {
            ModelTest test = new ModelTest(number);
            test.run(number);
            if (due.wrong() != 0) {
                System.out.println(test.told);
            }
        }
        if (args.length > 0) {
            System.out.println(seen);
        }
        due.end();
    }
}
