import java.io.IOException;

/** The sentences of the promises themselves, one by one, at their edges and with wrong inputs. */
public final class PromiseSentencesTest extends Trial {
    private static final int[] FAR_NUMBERS = {61, 100, 1000, 65536, Integer.MAX_VALUE, -1, -2, -60, -65536, Integer.MIN_VALUE};

    private static void newObject() {
        sentence("Promise 1", "No rules, no definitions, an empty statement; the text as after restart().");
        due.same("rules", x.rules(), 0);
        restarted();
        for (int rule = -1; rule <= 8; rule++) {
            probes(rule, NONE, NONE);
        }
        fresh();
        for (char c = 'A'; c <= 'Z'; c++) {
            state(c + ">a", UNDEFINED);
        }
        fresh();
        due.same("; at once", x.code(';'), SYNTAX);
        fresh();
        type(times("a", 48));
        due.same("the 49th", x.code('a'), REFUSED);
        fresh();
        write(times("a", 60));
        finishes(0, times("a", 60) + "|");
    }

    private static void objectsDoNotShare() {
        sentence("Promise 1", "No rules, no definitions, an empty statement; the text as after restart().");
        state("A=a", DEFINED);
        state("A>|a", ADDED);
        write("ab");
        settles(100, "|ab");
        type("x>");
        Counted first = x;
        fresh();
        due.same("rules of a second object", x.rules(), 0);
        restarted();
        state("A>", UNDEFINED);
        due.same("; on a second object", x.code(';'), SYNTAX);
        state("q>", ADDED);
        x.forget();
        x = first;
        due.same("rules of the first object", x.rules(), 1);
        shows("|ab");
        counts(100, 0, true);
        state("y", ADDED + 1);
    }

    private static void everyCallUpToThe512th() {
        sentence("What it is", "An object is used for at most 512 calls after it has been made; what later calls answer is free.");
        for (int kind = 0; kind < 14; kind++) {
            fresh();
            state("a>bc", ADDED);
            write("aa");
            while (x.calls() < Counted.MOST_CALLS - 2) {
                due.same("code of a space", x.code(' '), TAKEN);
            }
            due.same("settle as the 511th call", x.settle(), 2);
            the512thCall(kind);
            due.same("calls", x.calls(), 512);
        }
    }

    private static void the512thCall(int kind) {
        switch (kind) {
            case 0 -> due.same("code", x.code(';'), SYNTAX);
            case 1 -> due.same("code", x.code('a'), TAKEN);
            case 2 -> due.same("code", x.code((char) 127), REFUSED);
            case 3 -> due.same("rules", x.rules(), 1);
            case 4 -> due.same("write", x.write('z'), true);
            case 5 -> due.same("settle", x.settle(), 0);
            case 6 -> due.same("finish", x.finish(), 0);
            case 7 -> due.same("length", x.length(), 4);
            case 8 -> due.same("letter", x.letter(3), 'c');
            case 9 -> due.same("cursor", x.cursor(), 4);
            case 10 -> due.same("applied", x.applied(), 2);
            case 11 -> due.same("latest", x.latest(), 0);
            case 12 -> due.same("stuck", x.stuck(), false);
            default -> due.same("probe", x.probe(0, false), PENDING);
        }
    }

    private static void workUpToThe512thCall() {
        sentence("What it is", "An object is used for at most 512 calls after it has been made");
        state("(a+)b>1|1", ADDED);
        while (x.calls() < Counted.MOST_CALLS - 12) {
            x.restart();
            write("aab");
            finishes(1, "aaaa|");
        }
        fresh();
        while (x.calls() < Counted.MOST_CALLS - 2) {
            x.restart();
            due.same("write", x.write('a'), true);
        }
        due.same("length", x.length(), 1);
        due.same("letter(0)", x.letter(0), 'a');
        fresh();
        for (int n = 0; n < 128; n++) {
            state("A=" + ALPHABET.charAt(n % 26), DEFINED);
        }
        fresh();
        for (int n = 0; n < 85; n++) {
            x.forget();
            due.same("rules", x.rules(), 0);
            state("a>b", ADDED);
        }
    }

    /** What such calls answer is free, but by LANGUAGE.md they come to an end, and without an exception. */
    private static void noCallFailsAfterThe512th() {
        sentence("What it is", "what later calls answer is free.");
        CursorRewriter worn = new CursorRewriter();
        String typed = "A=[a-c];(A+)b>1|1a;a*{b>;aaaaaaaaaaaaaaaaaaaaaaaaaaaaaaaaaaaaaaaaaaaaaaaaaaaaaaaaaaaaaaaaaaaa;";
        for (int n = 0; n < 4000; n++) {
            worn.code(typed.charAt(n % typed.length()));
            worn.write((char) ('a' + n % 5));
            worn.probe(n % 10, n % 2 == 0);
            worn.letter(n % 70);
            if (n % 7 == 0) {
                worn.settle();
            }
            if (n % 31 == 0) {
                worn.finish();
            }
            if (n % 97 == 0) {
                worn.restart();
            }
            if (n % 1001 == 0) {
                worn.forget();
            }
        }
        due.same("all calls came back", true, true);
    }

    private static void foreignCharacters() {
        sentence("Promise 2", "REFUSED, changing nothing, (a ; may still be typed then) when c is not 32 .. 126");
        for (int c = 0; c <= 65535; c++) {
            freshWhenUsed();
            if (c < 32 || c > 126) {
                due.same("code(" + c + ")", x.code((char) c), REFUSED);
            }
        }
        for (int c : new int[] {0, 9, 10, 31, 127, 128, 160, 255, 256 + 'a', 256 + ';', 32768, 65535 - 65, 65535}) {
            fresh();
            due.same("code(" + c + ")", x.code((char) c), REFUSED);
            type("a");
            due.same("code(" + c + ")", x.code((char) c), REFUSED);
            type(">");
            due.same("code(" + c + ")", x.code((char) c), REFUSED);
            due.same("; then", x.code(';'), ADDED);
            due.same("code(" + c + ")", x.code((char) c), REFUSED);
            due.same("rules", x.rules(), 1);
            type(times("b", 46) + ">x");
            due.same("code(" + c + ") at 48", x.code((char) c), REFUSED);
            due.same("; then", x.code(';'), LIMIT);
            write("a");
            due.same("code(" + c + ")", x.code((char) c), REFUSED);
            finishes(1, "|");
        }
    }

    private static void fullStatement() {
        sentence("Promise 2", "or it is neither ';' nor a space and the statement has 48 characters");
        String full = "[" + times("a-b", 14) + "]>pqr";
        for (char c = 32; c <= 126; c++) {
            fresh();
            type(full.substring(0, 47));
            type("r");
            if (c != ' ' && c != ';') {
                due.same("code(" + c + ") at 48", x.code(c), REFUSED);
                due.same("code(" + c + ") again", x.code(c), REFUSED);
            }
            due.same("a space at 48", x.code(' '), TAKEN);
            due.same("; at 48", x.code(';'), ADDED);
            type("" + (c == ';' ? 'a' : c));
            write("a");
            finishes(1, "pqr|");
        }
        fresh();
        type(full);
        x.restart();
        due.same("the 49th behind restart", x.code('s'), REFUSED);
        x.forget();
        type(full);
        due.same("the 49th behind forget", x.code('s'), REFUSED);
        due.same("; at 48", x.code(';'), ADDED);
    }

    private static void takenOtherwise() {
        sentence("Promise 2", "TAKEN otherwise");
        for (char c = 32; c <= 126; c++) {
            if (c != ';') {
                fresh();
                due.same("code(" + c + ") as the first", x.code(c), TAKEN);
                fresh();
                type(times("a", 47));
                due.same("code(" + c + ") as the 48th", x.code(c), TAKEN);
            }
        }
        due.same("rules", x.rules(), 0);
    }

    private static void rulesCountFromThenOn() {
        sentence("Promise 2", "(Rules that are added count from then on, also for the text that is there.)");
        write("aab");
        state("a>x", ADDED);
        shows("|aab");
        settles(2, "xxb|");
        state("b>y", ADDED + 1);
        settles(0, "xxb|");
        write("b");
        settles(1, "xxby|");
        fresh();
        state("ab>x", ADDED);
        write("a");
        settles(0, "|a");
        state("a>y", ADDED + 1);
        settles(0, "|a");
        finishes(1, "y|");
        fresh();
        state("a>|a", ADDED);
        write("a");
        settles(100, "|a");
        state("a*>", ADDED + 1);
        probes(1, PENDING, MATCH);
        finishes(0, "|a");
        x.restart();
        write("b");
        settles(0, "b|");
        fresh();
        write("ab");
        finishes(0, "ab|");
        state("ab{c>x", ADDED);
        write("c");
        settles(1, "abx|");
    }

    private static void numberOfRules() {
        sentence("Promise 3", "The number of rules.");
        due.same("rules", x.rules(), 0);
        state("A=a", DEFINED);
        state("b", SYNTAX);
        state("B>", UNDEFINED);
        state("a>1", SEGMENT);
        state("a>" + THIRTEEN, LIMIT);
        due.same("rules", x.rules(), 0);
        for (int n = 0; n < 8; n++) {
            state(ALPHABET.charAt(n) + ">" + ALPHABET.charAt(n) + "y", ADDED + n);
            due.same("rules", x.rules(), n + 1);
            state(ALPHABET.charAt(n) + ">", n < 7 ? MASKED : LIMIT);
            due.same("rules", x.rules(), n + 1);
        }
        x.restart();
        due.same("rules behind restart", x.rules(), 8);
        write("ab");
        x.finish();
        due.same("rules behind finish", x.rules(), 8);
        state("i>", LIMIT);
        due.same("rules", x.rules(), 8);
        x.forget();
        due.same("rules behind forget", x.rules(), 0);
    }

    private static void forgetting() {
        sentence("Promise 4", "Takes all rules and definitions away and makes the statement empty; then restart().");
        x.forget();
        due.same("rules", x.rules(), 0);
        restarted();
        for (char c = 'A'; c <= 'Z'; c++) {
            state(c + "=a", DEFINED);
        }
        state("A>|a", ADDED);
        for (int n = 1; n < 8; n++) {
            state("a*>", ADDED + n);
        }
        write("ab");
        settles(100, "|ab");
        type("a>b");
        x.forget();
        due.same("; behind forget", x.code(';'), SYNTAX);
        due.same("rules", x.rules(), 0);
        restarted();
        for (int rule = 0; rule < 8; rule++) {
            probes(rule, NONE, NONE);
        }
        for (char c = 'A'; c <= 'Z'; c++) {
            state(c + ">", UNDEFINED);
        }
        state("a>", ADDED);
        write("ba");
        finishes(1, "b|");
        counts(1, 0, false);
        x.forget();
        x.forget();
        restarted();
        write("a");
        finishes(0, "a|");
    }

    private static void forgettingAFullStatement() {
        sentence("Promise 4", "makes the statement empty");
        type(times("a", 48));
        due.same("the 49th", x.code('a'), REFUSED);
        x.forget();
        state(times("a", 11) + ">b", ADDED);
        for (int n = 1; n < 8; n++) {
            state(n == 1 ? "a>" : "a*>", ADDED + n);
        }
        state("a*>", LIMIT);
    }

    private static void restarting() {
        sentence("Promise 5", "The text becomes empty, the cursor 0; no rule has been applied since, and the rewriter is not STUCK.");
        x.restart();
        restarted();
        state("a>b", ADDED);
        write("ccac");
        finishes(1, "ccbc|");
        x.restart();
        restarted();
        write("ca");
        shows("|ca");
        settles(1, "cb|");
        counts(1, 0, false);
        state("d>|d", ADDED + 1);
        x.restart();
        write("ad");
        settles(100, "b|d");
        counts(100, 1, true);
        x.restart();
        restarted();
        due.same("write", x.write('a'), true);
        settles(1, "b|");
        x.restart();
        write(times("c", 60));
        due.same("the 61st", x.write('c'), false);
        x.restart();
        write(times("c", 60));
        x.restart();
        x.restart();
        restarted();
    }

    private static void restartKeepsTheRest() {
        sentence("Promise 5", "(Statement, rules and definitions stay.)");
        state("A=[ab]", DEFINED);
        state("A>c", ADDED);
        type("(A)d>");
        x.restart();
        state("1e", MASKED);
        type("(d)A>");
        x.restart();
        x.restart();
        state("1e", ADDED + 1);
        due.same("rules", x.rules(), 2);
        x.restart();
        write("bda");
        finishes(2, "cde|");
        type(times("a", 48));
        x.restart();
        due.same("the 49th", x.code('a'), REFUSED);
        due.same("; then", x.code(';'), SYNTAX);
    }

    private static void writing() {
        sentence("Promise 6", "Puts a letter at the end of the text: true");
        for (int n = 0; n < 26; n++) {
            due.same("write", x.write(ALPHABET.charAt(n)), true);
            due.same("letter(" + n + ")", x.letter(n), 'a' + n);
            due.same("length", x.length(), n + 1);
            due.same("cursor", x.cursor(), 0);
        }
        finishes(0, ALPHABET + "|");
        write("a");
        shows(ALPHABET + "|a");
    }

    private static void writingWhatIsNoLetter() {
        sentence("Promise 6", "false, changing nothing, when c is not one of the 26 small letters");
        for (int c = 0; c <= 65535; c++) {
            freshWhenUsed();
            if (c < 'a' || c > 'z') {
                due.same("write(" + c + ")", x.write((char) c), false);
            }
        }
        for (int c : new int[] {0, ' ', ';', '`', '{', 'A', 'Z', '1', '|', 256 + 'a', 65535}) {
            fresh();
            type("a>");
            write("ab");
            due.same("write(" + c + ")", x.write((char) c), false);
            shows("|ab");
            counts(0, NONE, false);
            state("", ADDED);
            finishes(1, "b|");
        }
    }

    private static void writingWhenFull() {
        sentence("Promise 6", "the text has 60");
        write(times("a", 59) + "b");
        due.same("the 61st", x.write('c'), false);
        due.same("length", x.length(), 60);
        due.same("letter(59)", x.letter(59), 'b');
        due.same("letter(60)", x.letter(60), 0);
        due.same("stuck", x.stuck(), false);
        state("b>", ADDED);
        finishes(1, times("a", 59) + "|");
        due.same("the 60th again", x.write('c'), true);
        due.same("the 61st again", x.write('d'), false);
        finishes(0, times("a", 59) + "c|");
        due.same("the 61st behind finish", x.write('d'), false);
    }

    private static void writingWhenStuck() {
        sentence("Promise 6", "or the rewriter is STUCK");
        state("a>|a", ADDED);
        write("ab");
        x.settle();
        due.same("write when STUCK", x.write('a'), false);
        due.same("write no letter when STUCK", x.write('A'), false);
        shows("|ab");
        counts(100, 0, true);
        x.restart();
        due.same("write behind restart", x.write('b'), true);
        shows("|b");
    }

    private static void settling() {
        sentence("Promise 7", "until the cursor is at the end of the text, a rule is pending or the rewriter is STUCK.");
        state("a>b", ADDED);
        state("cd>|e", ADDED + 1);
        state("e>f", ADDED + 2);
        write("acda");
        settles(4, "bfb|");
        counts(4, 0, false);
        write("xac");
        settles(1, "bfbxb|c");
        write("c");
        settles(0, "bfbxbc|c");
        write("d");
        settles(2, "bfbxbcf|");
        fresh();
        state("a>bb", ADDED);
        write("aa" + times("c", 57));
        settles(1, "bb|a" + times("c", 57));
        counts(1, 0, true);
        sentence("Promise 7", "(So nothing, when it is STUCK already.)");
        state("a>|a", ADDED);
        write("ab");
        settles(100, "|ab");
        settles(0, "|ab");
        state("b>c", ADDED + 1);
        state("a*>c", ADDED + 2);
        settles(0, "|ab");
        finishes(0, "|ab");
        counts(100, 0, true);
    }

    private static void settleAnswers() {
        sentence("Promise 7", "Answers how many rules it applied.");
        due.same("settle on an empty text", x.settle(), 0);
        state("a>b", ADDED);
        write("aca");
        due.same("settle", x.settle(), 2);
        due.same("settle again", x.settle(), 0);
        write("a");
        due.same("settle", x.settle(), 1);
        due.same("applied", x.applied(), 3);
        x.restart();
        write(times("a", 60));
        due.same("settle", x.settle(), 60);
    }

    private static void finishing() {
        sentence("Promise 8", "Does the same with matching as the last word (no rule is pending then).");
        state("a+}b*>x", ADDED);
        write("caa");
        settles(0, "c|aa");
        finishes(1, "cx|");
        fresh();
        state("ab>x", ADDED);
        state("a>y", ADDED + 1);
        write("aab");
        finishes(2, "yx|");
        write("a");
        finishes(1, "yxy|");
        fresh();
        state("ab*>|a", ADDED);
        write("abb");
        finishes(100, "|a");
        due.same("stuck", x.stuck(), true);
        finishes(0, "|a");
        settles(0, "|a");
        fresh();
        state("abc>x", ADDED);
        write("ab");
        finishes(0, "ab|");
        write("c");
        finishes(0, "abc|");
    }

    private static void writingBehindFinish() {
        sentence("Promise 8", "Letters can be written behind afterwards all the same.");
        state("a+>x", ADDED);
        write("aa");
        finishes(1, "x|");
        write("aa");
        shows("x|aa");
        settles(0, "x|aa");
        write("b");
        settles(1, "xxb|");
        finishes(0, "xxb|");
        write("a");
        probes(0, PENDING, MATCH);
        finishes(1, "xxbx|");
        sentence("Promise 8", "Answers how many rules it applied.");
        due.same("finish on an empty text", x.finish(), 0);
        state("a>b", ADDED);
        write("aca");
        due.same("finish", x.finish(), 2);
        due.same("finish again", x.finish(), 0);
        write("a");
        due.same("finish", x.finish(), 1);
        due.same("applied", x.applied(), 3);
    }

    private static void length() {
        sentence("Promise 9", "The number of letters of the text.");
        due.same("length", x.length(), 0);
        for (int n = 1; n <= 60; n++) {
            write("a");
            due.same("length", x.length(), n);
        }
        x.write('a');
        due.same("length", x.length(), 60);
        state("ab>", ADDED);
        state("a>", ADDED + 1);
        x.settle();
        due.same("length", x.length(), 1);
        x.finish();
        due.same("length", x.length(), 0);
        state("c>defg", ADDED + 2);
        write("cc");
        x.settle();
        due.same("length", x.length(), 8);
        x.restart();
        due.same("length behind restart", x.length(), 0);
    }

    private static void letters() {
        sentence("Promise 10", "The letter at a place, as its code 97 .. 122");
        write(ALPHABET);
        for (int n = 0; n < 26; n++) {
            due.same("letter(" + n + ")", x.letter(n), 97 + n);
        }
        due.same("cursor", x.cursor(), 0);
        sentence("Promise 10", "0 when the place is not 0 .. length() - 1");
        due.same("letter(0) of an empty text", x.letter(0), 0);
        for (int place : FAR_NUMBERS) {
            due.same("letter(" + place + ") of an empty text", x.letter(place), 0);
        }
        write("az");
        due.same("letter(0)", x.letter(0), 97);
        due.same("letter(1)", x.letter(1), 122);
        due.same("letter(2)", x.letter(2), 0);
        for (int place : FAR_NUMBERS) {
            due.same("letter(" + place + ")", x.letter(place), 0);
        }
        write(times("b", 58));
        due.same("letter(59)", x.letter(59), 98);
        due.same("letter(60)", x.letter(60), 0);
        for (int place : FAR_NUMBERS) {
            due.same("letter(" + place + ") of a full text", x.letter(place), 0);
        }
        state("b+>", ADDED);
        x.finish();
        due.same("letter(1)", x.letter(1), 122);
        due.same("letter(2), which is gone", x.letter(2), 0);
        x.restart();
        due.same("letter(0) behind restart", x.letter(0), 0);
    }

    private static void cursor() {
        sentence("Promise 11", "The cursor.");
        due.same("cursor", x.cursor(), 0);
        write("abc");
        due.same("cursor behind write", x.cursor(), 0);
        state("bc+>", ADDED);
        due.same("cursor behind code", x.cursor(), 0);
        x.settle();
        due.same("cursor behind settle", x.cursor(), 1);
        x.probe(0, true);
        due.same("cursor behind probe", x.cursor(), 1);
        x.finish();
        due.same("cursor behind finish", x.cursor(), 1);
        due.same("length", x.length(), 1);
        x.restart();
        due.same("cursor behind restart", x.cursor(), 0);
        fresh();
        state("a>bc|dd", ADDED);
        state("d+>e", ADDED + 1);
        write("xa");
        x.settle();
        due.same("cursor where the '|' is", x.cursor(), 3);
        due.same("length", x.length(), 5);
        x.finish();
        due.same("cursor at the end", x.cursor(), 4);
        due.same("length", x.length(), 4);
    }

    private static void applied() {
        sentence("Promise 12", "How many rules were applied since the latest restart.");
        due.same("applied", x.applied(), 0);
        state("a>b", ADDED);
        due.same("applied", x.applied(), 0);
        write("aac");
        due.same("applied before settle", x.applied(), 0);
        x.settle();
        due.same("applied", x.applied(), 2);
        write("ca");
        x.finish();
        due.same("applied", x.applied(), 3);
        x.settle();
        x.finish();
        due.same("applied", x.applied(), 3);
        x.restart();
        due.same("applied behind restart", x.applied(), 0);
        write("a");
        x.settle();
        due.same("applied", x.applied(), 1);
        x.forget();
        due.same("applied behind forget", x.applied(), 0);
        state("a>|a", ADDED);
        write("a");
        x.finish();
        due.same("applied", x.applied(), 100);
    }

    private static void latest() {
        sentence("Promise 13", "The number of the rule that was applied last since the latest restart");
        for (int n = 0; n < 8; n++) {
            state(ALPHABET.charAt(n) + ">x", ADDED + n);
        }
        write("ha");
        x.settle();
        due.same("latest", x.latest(), 0);
        write("g");
        x.settle();
        due.same("latest", x.latest(), 6);
        write("xx");
        x.settle();
        x.finish();
        due.same("latest without a new one", x.latest(), 6);
        write("h");
        x.finish();
        due.same("latest", x.latest(), 7);
        sentence("Promise 13", "NONE when none was");
        due.same("latest", x.latest(), NONE);
        state("a>b", ADDED);
        write("c");
        x.finish();
        due.same("latest", x.latest(), NONE);
        write("a");
        due.same("latest", x.latest(), NONE);
        x.finish();
        due.same("latest", x.latest(), 0);
        x.restart();
        due.same("latest behind restart", x.latest(), NONE);
        write("a");
        x.finish();
        x.forget();
        due.same("latest behind forget", x.latest(), NONE);
        state("a>" + TWELVE, ADDED);
        write(times("a", 50));
        x.restart();
        write("a" + times("b", 59));
        x.finish();
        due.same("stuck", x.stuck(), true);
        due.same("latest when the rule was not applied", x.latest(), NONE);
    }

    private static void stuck() {
        sentence("Promise 14", "Whether the rewriter is STUCK.");
        due.same("stuck", x.stuck(), false);
        state("a>bb", ADDED);
        write(times("a", 30));
        x.finish();
        due.same("stuck at 60", x.stuck(), false);
        x.restart();
        write(times("a", 31));
        due.same("stuck before", x.stuck(), false);
        settles(29, times("bb", 29) + "|aa");
        due.same("length", x.length(), 60);
        due.same("stuck", x.stuck(), true);
        x.settle();
        due.same("stuck behind settle", x.stuck(), true);
        x.finish();
        due.same("stuck behind finish", x.stuck(), true);
        state("c>", ADDED + 1);
        due.same("stuck behind code", x.stuck(), true);
        x.restart();
        due.same("stuck behind restart", x.stuck(), false);
        write("a" + times("c", 59));
        x.settle();
        due.same("stuck", x.stuck(), true);
        x.forget();
        due.same("stuck behind forget", x.stuck(), false);
    }

    private static void probing() {
        sentence("Promise 15", "What comes of matching a rule at the cursor, as the last word if last is true, else while the text may still grow: NO_MATCH, MATCH or PENDING");
        state("a+}c>x", ADDED);
        state("b>y", ADDED + 1);
        write("aa");
        probes(0, PENDING, NO_MATCH);
        probes(1, NO_MATCH, NO_MATCH);
        write("c");
        probes(0, MATCH, MATCH);
        shows("|aac");
        counts(0, NONE, false);
        for (int n = 0; n < 3; n++) {
            probes(0, MATCH, MATCH);
            probes(1, NO_MATCH, NO_MATCH);
        }
        settles(1, "xc|");
        sentence("Promise 15", "also at the end of the text");
        state("a>", ADDED);
        state("a*>", ADDED + 1);
        state("b{a>", MASKED);
        state("b{c>", ADDED + 2);
        probes(0, PENDING, NO_MATCH);
        probes(1, PENDING, NO_MATCH);
        probes(2, NO_MATCH, NO_MATCH);
        write("b");
        settles(0, "b|");
        probes(0, PENDING, NO_MATCH);
        probes(1, PENDING, NO_MATCH);
        probes(2, PENDING, NO_MATCH);
    }

    private static void probingWhenStuck() {
        sentence("Promise 15", "and when the rewriter is STUCK");
        state("a>|a", ADDED);
        state("b>", ADDED + 1);
        state("ab+>", ADDED + 2);
        write("ab");
        settles(100, "|ab");
        due.same("stuck", x.stuck(), true);
        probes(0, MATCH, MATCH);
        probes(1, NO_MATCH, NO_MATCH);
        probes(2, PENDING, MATCH);
        probes(3, NONE, NONE);
        shows("|ab");
        counts(100, 0, true);
    }

    private static void probingNoRule() {
        sentence("Promise 15", "NONE when there is no such rule");
        for (int rule : FAR_NUMBERS) {
            probes(rule, NONE, NONE);
        }
        for (int n = 0; n < 8; n++) {
            probes(n, NONE, NONE);
            state(ALPHABET.charAt(n) + ">", ADDED + n);
            probes(n, PENDING, NO_MATCH);
        }
        probes(8, NONE, NONE);
        probes(9, NONE, NONE);
        state("z>", LIMIT);
        probes(8, NONE, NONE);
        for (int rule : FAR_NUMBERS) {
            probes(rule, NONE, NONE);
        }
        write("h");
        probes(7, MATCH, MATCH);
        x.forget();
        for (int n = 0; n < 9; n++) {
            probes(n, NONE, NONE);
        }
        state("a>1", SEGMENT);
        probes(0, NONE, NONE);
    }

    public static void main(String[] args) throws IOException {
        newObject();
        objectsDoNotShare();
        everyCallUpToThe512th();
        workUpToThe512thCall();
        noCallFailsAfterThe512th();
        foreignCharacters();
        fullStatement();
        takenOtherwise();
        rulesCountFromThenOn();
        numberOfRules();
        forgetting();
        forgettingAFullStatement();
        restarting();
        restartKeepsTheRest();
        writing();
        writingWhatIsNoLetter();
        writingWhenFull();
        writingWhenStuck();
        settling();
        settleAnswers();
        finishing();
        writingBehindFinish();
        length();
        letters();
        cursor();
        applied();
        latest();
        stuck();
        probing();
        probingWhenStuck();
        probingNoRule();
        end(args);
    }
}
