import java.io.IOException;

/** The document's sentences on statements, one by one, at their edges. All of them come into promise 2. */
public final class StatementSentencesTest extends Trial {
    private static final String TERMS = "Promise 2 (Terms)";

    private static void statementsEndWithSemicolon() {
        sentence(TERMS, "STATEMENTS are typed character by character and end with ';'.");
        type("a>b");
        due.same("rules before the ;", x.rules(), 0);
        probes(0, NONE, NONE);
        write("a");
        finishes(0, "a|");
        x.restart();
        due.same("; at last", x.code(';'), ADDED);
        due.same("rules behind the ;", x.rules(), 1);
        write("a");
        finishes(1, "b|");
        state("A=a", DEFINED);
        type("A=b");
        state("", DEFINED);
    }

    private static void spacesAreLeftOut() {
        sentence(TERMS, "Characters 32 (spaces) are left out;");
        state("  ", SYNTAX);
        state(" A = [ ^ a - c ] ", DEFINED);
        state("  ( A + ) b } c * > 1 | x ", ADDED);
        write("dxbac");
        finishes(1, "dxxac|");
        fresh();
        state("a b > c d", ADDED);
        write("ab");
        finishes(1, "cd|");
        fresh();
        state("a *>x", ADDED);
        write("aab");
        finishes(1, "xb|");
        for (int other : new int[] {9, 10, 13, 160}) {
            fresh();
            type("a>");
            due.same("code(" + other + ")", x.code((char) other), REFUSED);
            state("b", ADDED);
        }
    }

    /** A rule of this many characters, with a replacement of the last two, three or four letters of 'pqrs'. */
    private static String longRule(int characters) {
        return "[" + times("a-b", 14) + "]>" + "pqrs".substring(0, characters - 45);
    }

    private static void atMost48Characters() {
        sentence(TERMS, "without them a statement has at most 48 characters before the ';'");
        state(longRule(47), ADDED);
        write("b");
        finishes(1, "pq|");
        fresh();
        state(longRule(48), ADDED);
        write("b");
        finishes(1, "pqr|");
        fresh();
        type(longRule(48));
        due.same("the 49th", x.code('s'), REFUSED);
        due.same("; behind 48", x.code(';'), ADDED);
        write("b");
        finishes(1, "pqr|");
        fresh();
        type(times(" ", 100) + longRule(48).substring(0, 20) + times(" ", 100));
        type(longRule(48).substring(20) + times(" ", 60));
        due.same("the 49th beside the spaces", x.code('s'), REFUSED);
        due.same("; behind spaces", x.code(';'), ADDED);
        write("b");
        finishes(1, "pqr|");
    }

    private static void atMost48CharactersOfDefinition() {
        sentence(TERMS, "without them a statement has at most 48 characters before the ';'");
        String ranges = times("a-b", 14) + "cd";
        state("A=[" + ranges + "]", DEFINED);
        state("A>", ADDED);
        write("abcde");
        finishes(4, "e|");
        fresh();
        type("A=[" + ranges + "e");
        due.same("the 49th", x.code(']'), REFUSED);
        due.same("; behind 48", x.code(';'), SYNTAX);
        state("A>", UNDEFINED);
        fresh();
        for (int n = 0; n < 9; n++) {
            state("A=[" + ranges + "]", DEFINED);
        }
    }

    private static void definitions() {
        sentence(TERMS, "a capital letter, '=', an element");
        for (char c = 'A'; c <= 'Z'; c++) {
            fresh();
            char small = (char) (c + 'a' - 'A');
            state(c + "=" + small, DEFINED);
            state(c + ">", ADDED);
            write(ALPHABET);
            finishes(1, ALPHABET.replace("" + small, "") + "|");
        }
        eachAlone(DEFINED, "A=a", "Z=z", "M=.", "A=[a]", "A=[^a-z]", "A=[^bx-z]");
        eachAlone(SYNTAX, "=a", "a=b", "@=a", "[=a", ".=a", "1=a", "AB=a", "A", "Z", "A=", "=", "A==a", "A=a=", "A:a", "Aa",
            "A=ab", "A=aa", "A=..", "A=a*", "A=a+", "A=a?", "A=(a)", "A=a>b", "A=a>", "A>=a", "A=1", "A=|", "A={a",
            "A=a}", "A=`", "A={", "A=@", "A=[", "A=]", "A=A=a", "(A)=a", "A*=a", "A=^a", "A=a-b");
        fresh();
        state("A=a", DEFINED);
        state("A=b*", SYNTAX);
        state("A=bc", SYNTAX);
        state("A=B", UNDEFINED);
        state("A>", ADDED);
        write("ab");
        finishes(1, "b|");
    }

    private static void parts() {
        sentence(TERMS, "[ context '{' ] key [ '}' context ] '>' replacement");
        eachAlone(SYNTAX, "a", "b{a", "a}b", "b{a}c", "a>b>c", "a>>b", ">a>b", "c{b{a>", "a}b}c>", "a}b{c>", "c{b{a}d>",
            "{{a>", "a}}>", "{a}}>", "{{a}>", "a>b{c", "a>b}c", "{a>}b", "a>{b", "a}>b}", "a{b=c", "a<b", "a-b>c",
            "a,b>c", "a=>b", ">a", "a#>");
        sentence(TERMS, "each may be missing");
        eachAlone(ADDED, "a>", "b{a>", "a}c>", "b{a}c>");
        becomes("b{a}c>x", "abacaca", "abxcaca|");
        becomes("b{a>x", "abaca", "abxca|");
        becomes("a}c>x", "abaca", "abxca|");
    }

    private static void contexts() {
        sentence(TERMS, "any number of elements, each with or without a quantifier behind it");
        eachAlone(ADDED, "{a>", "a}>", "{a}>", "bcdefghijkl{a>", "a}bcdefghijkl>", "b*c+d?.*[xy]+{a>", "a}b*c+d?.*[xy]+>",
            "b*{a}c?>", "bc*{a}cd?>");
        eachAlone(SYNTAX, "*{a>", "*b{a>", "b**{a>", "b*?{a>", "a}*>", "a}*b>", "a}b++>", "a}b?*>", "(b){a>", "a}(b)>",
            "b1{a>", "a}b1>", "b|{a>", "a}b|>", "b){a>", "(b{a>", "(b{a)>", "(a}b)>", "a}b)>");
        becomes("{a}>x", "bab", "bxb|");
        fresh();
        state("a>", ADDED);
        state("{a>", MASKED);
        state("a}>", MASKED);
        state("{a}>", MASKED);
    }

    private static void keyHasAnElement() {
        sentence(TERMS, "at least one element, each with or without a quantifier behind it");
        eachAlone(SYNTAX, ">", ">a", "{>", "}>", "{}>", "b{>", "}b>", "b{}c>", "()>", "b{()>", "()}c>", "b{()}c>", "*>", "+>",
            "?>", "(*)>", "*a>", "a**>", "a*+>", "a+?>", "a??>", "a**b>", "{*a>");
        eachAlone(ADDED, "a>", ".>", "[a]>", "a*>", "a+>", "a?>", "a*b>", "ab+>", "a?b*>", ".*>", "[a]?>", "b{a}c>");
    }

    private static void segments() {
        sentence(TERMS, "of the elements of the key, one or more neighbouring ones may be put into parentheses '(' and ')': a SEGMENT");
        eachAlone(ADDED, "(a)>", "(ab)>", "(a)b>", "a(b)>", "a(b)c>", "(a)(b)>", "(a)b(c)>", "(a*)>", "(a*b+c?)>", "(.)>", "([a])>",
            "b{(a)}c>", "(" + TWELVE + ")>");
        eachAlone(SYNTAX, "()>", "a()>", "()a>", "(a)()>", "(a>", "a)>", ")a(>", "(a))>", "a(>", ")a>", "(a)b)>", "(a)(b>",
            "(a)*>", "(a)+>", "(ab)?>", "(*)>", "(*a)>", "(a>)", "(a>1)", "(a{b)>", "b{(a}c)>", "(b{a)>", "(b){a>",
            "a}(b)>", "b{(a}c>", "(a}>", "({a)>", "([)a]>", "[(a)]>", "a>(b)", "(A=a)", "A=(a)");
        sentence(TERMS, "segments are not put into one another");
        eachAlone(SYNTAX, "((a))>", "((a)b)>", "(a(b))>", "(a(b)c)>", "((a)>", "(a))>", "(a(b)>", "((a)(b))>", "(a(b)c>");
    }

    private static void elements() {
        sentence(TERMS, "a small letter; or '.'; or a capital letter; or '[', perhaps '^', one or more ranges, ']'");
        for (char c = 33; c <= 126; c++) {
            if (c != ';') {
                fresh();
                boolean isSmall = c >= 'a' && c <= 'z';
                boolean isCapital = c >= 'A' && c <= 'Z';
                state(c + ">", isSmall || c == '.' ? ADDED : isCapital ? UNDEFINED : SYNTAX);
            }
        }
        eachAlone(ADDED, "[a]>", "[z]>", "[ab]>", "[a-b]>", "[^a]>", "[^a-z]>", "[ab-c]>", "[a-bc]>", "[a-bc-d]>", "[aa]>", "[ba]>",
            "[^ab-cz]>");
        eachAlone(SYNTAX, "[]>", "[^]>", "[>", "]>", "[a>", "a]>", "[^a>", "[[a]>", "[a]]>", "[[a]]>", "[^^a]>", "[a^]>", "[a^b]>",
            "^a>", "[^-a]>", "[.]>", "[A]>", "[*]>", "[a*]>", "[a,b]>", "[1]>", "[a1]>", "[a|b]>", "[`]>", "[{]>",
            "[a{]>", "[@]>", "[{b>", "[a{b>", "[^a{b>", "[a*{b>", "b}[>", "b}[a>", "b}[^>", "b}[a*>", "([a)>", "c[a{b>", "b}c[a>");
    }

    private static void ranges() {
        sentence(TERMS, "a range is a small letter, or two of them with '-' between");
        eachAlone(SYNTAX, "[-]>", "[-a]>", "[a-]>", "[a-]b]>", "[a--b]>", "[a-b-c]>", "[a-A]>", "[A-a]>", "[a-.]>", "[a-^b]>",
            "[a-`]>", "[a-{]>", "[y-~]>", "[a-", "[a-b", "A=[a-", "A=[a-b");
        sentence(TERMS, "the second not earlier in the alphabet than the first");
        eachAlone(ADDED, "[a-a]>", "[z-z]>", "[a-z]>", "[y-z]>", "[^m-m]>");
        eachAlone(SYNTAX, "[b-a]>", "[z-y]>", "[z-a]>", "[y-b]>", "[^b-a]>", "[ab-a]>", "[b-aa]>", "[a-zb-a]>", "A=[b-a]",
            "[b-a]{c>", "c}[b-a]>", "[b-a{c>", "c}[b-a>", "[b-a>", "([b-a)>");
    }

    private static void quantifiers() {
        sentence(TERMS, "'*', '+' or '?'");
        for (char c = 33; c <= 126; c++) {
            boolean isQuantifier = c == '*' || c == '+' || c == '?';
            boolean isElement = c >= 'a' && c <= 'z' || c == '.';
            boolean isCapital = c >= 'A' && c <= 'Z';
            if (c != ';') {
                fresh();
                state("(a" + c + ")>", isQuantifier || isElement ? ADDED : isCapital ? UNDEFINED : SYNTAX);
            }
        }
    }

    private static void replacements() {
        sentence(TERMS, "any number of small letters and digits '1', '2', '3'");
        for (char c = 33; c <= 126; c++) {
            if (c != ';') {
                fresh();
                boolean isRight = c >= 'a' && c <= 'z' || c >= '1' && c <= '3' || c == '|';
                state("(a)(b)(c)>" + c, isRight ? ADDED : SYNTAX);
                fresh();
                state("(a)(b)(c)>x" + c + "1", isRight ? ADDED : SYNTAX);
            }
        }
        eachAlone(ADDED, "a>", "(a)>1", "(a)>111111111111", "a>" + TWELVE, "(a)(b)(c)>3x2y1z");
        sentence(TERMS, "and among them, or before or behind them all, at most one '|'");
        eachAlone(ADDED, "a>|", "a>|b", "a>b|", "a>b|c", "(a)>|1", "(a)>1|", "(a)>1|1");
        eachAlone(SYNTAX, "a>||", "a>|b|", "a>||b", "a>b||", "a>b|c|d", "|a>", "a|>", "a|>b", "a>b|>", "|>", "|");
    }

    /** A rule whose key is this element takes these letters of the alphabet away, and no others. */
    private static void standsFor(String element, String letters) {
        state(element + ">", x.rules() + ADDED);
        x.restart();
        write(ALPHABET);
        due.same(element + " stands for so many", x.finish(), letters.length());
        StringBuilder others = new StringBuilder();
        for (char c : ALPHABET.toCharArray()) {
            others.append(letters.indexOf(c) < 0 ? "" + c : "");
        }
        due.same("letters that " + element + " does not stand for", seen(), others + "|");
    }

    private static void standsForAlone(String element, String letters) {
        fresh();
        standsFor(element, letters);
    }

    private static void whatElementsStandFor() {
        sentence(TERMS, "An element STANDS FOR letters: a small letter for itself, '.' for all 26");
        for (char c : ALPHABET.toCharArray()) {
            standsForAlone("" + c, "" + c);
        }
        standsForAlone(".", ALPHABET);
        sentence(TERMS, "brackets for the letters of their ranges (each range the letters from the one to the other)");
        standsForAlone("[a]", "a");
        standsForAlone("[z]", "z");
        standsForAlone("[a-a]", "a");
        standsForAlone("[z-z]", "z");
        standsForAlone("[a-z]", ALPHABET);
        standsForAlone("[a-b]", "ab");
        standsForAlone("[y-z]", "yz");
        standsForAlone("[a-y]", "abcdefghijklmnopqrstuvwxy");
        standsForAlone("[b-z]", "bcdefghijklmnopqrstuvwxyz");
        standsForAlone("[a-cx-z]", "abcxyz");
        standsForAlone("[x-za-c]", "abcxyz");
        standsForAlone("[a-db-e]", "abcde");
        standsForAlone("[b-ca-d]", "abcd");
        standsForAlone("[zmaa]", "amz");
        standsForAlone("[ac-eg]", "acdeg");
        sentence(TERMS, "or, with '^', for all others");
        standsForAlone("[^a]", "bcdefghijklmnopqrstuvwxyz");
        standsForAlone("[^z]", "abcdefghijklmnopqrstuvwxy");
        standsForAlone("[^b-y]", "az");
        standsForAlone("[^a-mo-z]", "n");
        standsForAlone("[^a-z]", "");
    }

    private static void whatCapitalsStandFor() {
        sentence(TERMS, "a capital letter for what the element of its latest definition stands for at the time when the ';' of the statement is typed");
        state("A=a", DEFINED);
        state("A=b", DEFINED);
        standsFor("A", "b");
        fresh();
        state("A=[^c-z]", DEFINED);
        state("B=A", DEFINED);
        standsFor("B", "ab");
        fresh();
        state("A=a", DEFINED);
        state("B=A", DEFINED);
        state("A=b", DEFINED);
        state("B=B", DEFINED);
        standsFor("B", "a");
        fresh();
        state("A=[^a-z]", DEFINED);
        standsFor("A", "");
        fresh();
        state("A=.", DEFINED);
        standsFor("A", ALPHABET);
        fresh();
        state("A=[ab]", DEFINED);
        state("cA*{(A+)}A>1", ADDED);
        state("A=A", DEFINED);
        state("cA>1", SEGMENT);
    }

    private static void laterDefinitionsChangeNothing() {
        sentence(TERMS, "(definitions that come later change nothing in it)");
        state("A=a", DEFINED);
        state("A>x", ADDED);
        state("A=b", DEFINED);
        write("ab");
        finishes(1, "xb|");
        state("A>y", ADDED + 1);
        x.restart();
        write("ab");
        finishes(2, "xy|");
        fresh();
        state("A=a", DEFINED);
        state("B=A", DEFINED);
        state("A=b", DEFINED);
        standsFor("B", "a");
        fresh();
        state("A=a", DEFINED);
        state("A{b}A>x", ADDED);
        state("A=c", DEFINED);
        write("abacbc");
        finishes(1, "axacbc|");
        fresh();
        state("A=a", DEFINED);
        type("A>");
        x.restart();
        write("a");
        due.same("; of a rule typed before", x.code(';'), ADDED);
        state("A=b", DEFINED);
        finishes(1, "|");
    }

    private static void segmentNumbers() {
        sentence(TERMS, "Segments are numbered from 1 in the order of their beginnings.");
        becomes("(a)(b)(c)>1", "abc", "a|");
        becomes("(a)(b)(c)>2", "abc", "b|");
        becomes("(a)(b)(c)>3", "abc", "c|");
        becomes("(a)(b)(c)>321", "abc", "cba|");
        becomes("a(b)c(d)>2x1", "abcd", "dxb|");
        becomes("(ab)c(d)>21", "abcd", "dab|");
        becomes("x{(a)(b)}c>21", "xabc", "xbac|");
    }

    private static void emptyAgainInAnyCase() {
        sentence(TERMS, "When ';' is typed, the statement is empty again in any case");
        String[] statements = {"", "a", "a>b>c", "A>b", "A=B", "a>1", THIRTEEN + ">", "a>" + THIRTEEN, "(a)(b)(c)(d)>"};
        int[] answers = {SYNTAX, SYNTAX, SYNTAX, UNDEFINED, UNDEFINED, SEGMENT, LIMIT, LIMIT, LIMIT};
        for (int n = 0; n < statements.length; n++) {
            fresh();
            state(statements[n], answers[n]);
            due.same("; at once again", x.code(';'), SYNTAX);
            state(statements[n], answers[n]);
            state("a>b", ADDED);
            due.same("; behind a rule", x.code(';'), SYNTAX);
            state("a>b", MASKED);
            due.same("; behind a masked rule", x.code(';'), SYNTAX);
            state("A=a", DEFINED);
            due.same("; behind a definition", x.code(';'), SYNTAX);
            state("b>c", ADDED + 1);
        }
        fresh();
        type(times("a", 48));
        due.same("; behind 48", x.code(';'), SYNTAX);
        state(times("a", 48), SYNTAX);
        state("a>b", ADDED);
    }

    private static void nothingStaysOfAnEarlierOne() {
        sentence(TERMS, "the statement is empty again in any case");
        String[] refused = {"b{(c*)(d)}e+>12|34", "B{(c*)(d)}e+>12|1", "b{(c*)(d)}e+>12|3", "b{(c*)(d)}e+" + THIRTEEN + ">12|1",
            "b{(c*)(d)(c)(d)}e+>12|1"};
        int[] answers = {SYNTAX, UNDEFINED, SEGMENT, LIMIT, LIMIT};
        for (int n = 0; n < refused.length; n++) {
            fresh();
            state(refused[n], answers[n]);
            state("a>1", SEGMENT);
            state(refused[n], answers[n]);
            state("a>x", ADDED);
            state(refused[n], answers[n]);
            state("a>y", MASKED);
            state("ab>", MASKED);
            state(refused[n], answers[n]);
            state("b>y", ADDED + 1);
            write("ab");
            finishes(2, "xy|");
        }
        fresh();
        state("b{(c*)(d)}e+>12|1", ADDED);
        x.forget();
        state("a>1", SEGMENT);
        state("a>x", ADDED);
        state("a>y", MASKED);
        write("a");
        finishes(1, "x|");
    }

    private static void eightRules() {
        for (int n = 0; n < 8; n++) {
            state((char) ('a' + n) + ">x", ADDED + n);
        }
    }

    private static void syntaxComesFirst() {
        sentence(TERMS, "the answer is the first of these that holds: SYNTAX, it is neither a definition nor a rule");
        eachAlone(SYNTAX, "A>b>", "A", "A=B*", "A=BC", "A>4", "A*", "AA=a", "a>1|2|", "a>1#", "a>14", THIRTEEN + ">b>", THIRTEEN,
            "(a)(b)(c)(d)>4", "a>" + THIRTEEN + ">", "A" + THIRTEEN + ">1||");
        fresh();
        state(".>", ADDED);
        state("a>B", SYNTAX);
        state("a", SYNTAX);
        fresh();
        eightRules();
        state("y", SYNTAX);
        state("", SYNTAX);
        state("A=bc", SYNTAX);
        due.same("rules", x.rules(), 8);
    }

    private static void undefinedComesSecond() {
        sentence(TERMS, "UNDEFINED, an element of it is a capital letter that was not defined before");
        eachAlone(UNDEFINED, "A>", "Z>", "A*>", "(A)>1", "aA>", "Aa>", "aAa>", "A{a>", "bA{a>", "Ab{a>", "a}A>", "a}bA>", "a}A?b>",
            "A=B", "A=A", "Z=Z", "a(bA)>1", THIRTEEN + "A>", "A" + THIRTEEN + ">", "a}" + THIRTEEN + "A>", THIRTEEN + "A{a>");
        eachAlone(UNDEFINED, "A>1", "(A)>2", "(A)(b)(c)(d)>", "A>" + THIRTEEN, THIRTEEN + "A>1");
        fresh();
        state(".>", ADDED);
        state("aA>", UNDEFINED);
        state("A=a", DEFINED);
        state("B>", UNDEFINED);
        state("AB>", UNDEFINED);
        state("BA>", UNDEFINED);
        state("B=C", UNDEFINED);
        state("B>", UNDEFINED);
        state("A=B", UNDEFINED);
        state("bA>", MASKED);
        fresh();
        eightRules();
        state("A>", UNDEFINED);
        state("A=A", UNDEFINED);
        due.same("rules", x.rules(), 8);
    }

    private static void segmentComesThird() {
        sentence(TERMS, "SEGMENT, the replacement has a digit greater than the number of segments");
        eachAlone(SEGMENT, "a>1", "a>2", "a>3", "(a)>2", "(a)>3", "(a)>12", "(a)>21", "(a)>|2", "(a)>2|", "(a)>x2y", "(a)(b)>3",
            "(a)(b)>123", "(a)(b)>321", "(ab)>2", "b{a}c>1");
        eachAlone(ADDED, "(a)>1", "(a)(b)>1", "(a)(b)>2", "(a)(b)>21", "(a)(b)(c)>3", "(a)(b)(c)>321");
        eachAlone(SEGMENT, THIRTEEN + ">1", "a>1" + TWELVE, "a>" + TWELVE + "1", "(a)>" + THIRTEEN + "3", "(a)" + TWELVE + ">2");
        fresh();
        state(".>", ADDED);
        state("a>1", SEGMENT);
        state("(a)>2", SEGMENT);
        fresh();
        eightRules();
        state("y>1", SEGMENT);
        due.same("rules", x.rules(), 8);
    }

    private static void limitOfRules() {
        sentence(TERMS, "LIMIT, it is a rule and eight are there");
        eightRules();
        due.same("rules", x.rules(), 8);
        state("i>x", LIMIT);
        state("i*>x", LIMIT);
        state("a>x", LIMIT);
        state("y>", LIMIT);
        due.same("rules", x.rules(), 8);
        probes(8, NONE, NONE);
        state("A=i", DEFINED);
        state("A>x", LIMIT);
        state("B=A", DEFINED);
        write("ahi");
        finishes(2, "xxi|");
        x.forget();
        eightRules();
        state("i>x", LIMIT);
    }

    private static void limitOfElements() {
        sentence(TERMS, "or it has more than 12 elements (BEFORE, key and AFTER together)");
        eachAlone(ADDED, TWELVE + ">", "abcd{efgh}ijkl>", "abcdefghijk{l>", "a}bcdefghijkl>", "abcdef{g}hijkl>", times("a*", 12) + ">",
            "(" + TWELVE + ")>1", times("[a]", 12) + ">", "[abcdefghijklmnop]>", times(".", 12) + ">");
        eachAlone(LIMIT, THIRTEEN + ">", "abcde{fghi}jklm>", "abcd{efghi}jklm>", "abcd{efgh}ijklm>", "abcdefghijkl{m>", "a}bcdefghijklm>",
            "abcdefghijkl{m}>", "abcdef{g}hijklm>", times("a*", 13) + ">", "(" + THIRTEEN + ")>1", times("[a]", 13) + ">",
            times("a", 47) + ">", times("a", 46) + ">", times("a", 45) + "{b>", "a}" + times("b", 45) + ">");
        fresh();
        state("abcd{efgh}ijkl>x", ADDED);
        state("m>y", ADDED + 1);
        write("abcdefghijklm");
        finishes(2, "abcdxijkly|");
        fresh();
        state(".>", ADDED);
        state(THIRTEEN + ">", LIMIT);
        state(TWELVE + ">", MASKED);
    }

    private static void limitOfSegments() {
        sentence(TERMS, "or more than 3 segments");
        eachAlone(ADDED, "(a)(b)(c)>", "(a)(b)(c)>123", "x(a)x(b)x(c)x>", "(abc)(def)(ghi)>");
        eachAlone(LIMIT, "(a)(b)(c)(d)>", "(a)(b)(c)(d)>1", "(a)(b)(c)(d)>3", "x(a)x(b)x(c)x(d)x>", times("(a)", 12) + ">", "b{(a)(b)(c)(d)}e>");
        fresh();
        state(".>", ADDED);
        state("(a)(b)(c)(d)>", LIMIT);
        state("(a)(b)(c)>", MASKED);
    }

    private static void limitOfReplacement() {
        sentence(TERMS, "or more than 12 letters and digits in the replacement");
        eachAlone(ADDED, "a>" + TWELVE, "a>" + TWELVE + "|", "a>|" + TWELVE, "a>abcdef|ghijkl", "(a)>" + times("1", 12), "(a)>" + times("1", 12) + "|",
            "(a)>abcdef111111");
        eachAlone(LIMIT, "a>" + THIRTEEN, "a>" + TWELVE + "|m", "a>|" + THIRTEEN, "a>" + THIRTEEN + "|", "(a)>" + times("1", 13),
            "(a)>" + TWELVE + "1", "(a)>1" + TWELVE, "a>" + times("b", 46));
        fresh();
        state("a>" + TWELVE + "|", ADDED);
        state("a>" + THIRTEEN, LIMIT);
        state("a>" + TWELVE, MASKED);
        write("xay");
        finishes(1, "x" + TWELVE + "y|");
    }

    private static void maskedComesLast() {
        sentence(TERMS, "MASKED, it is a rule, and one of the rules that are there masks it.");
        state("a>x", ADDED);
        state("b>x", ADDED + 1);
        state("c>x", ADDED + 2);
        state("a>y", MASKED);
        state("b>y", MASKED);
        state("c>y", MASKED);
        state("d>y", ADDED + 3);
        state("d>y", MASKED);
        state(".>y", ADDED + 4);
        state("e>y", MASKED);
        due.same("rules", x.rules(), 5);
        state("A=a", DEFINED);
        state("A>y", MASKED);
        state("A=A", DEFINED);
        x.restart();
        state("a>y", MASKED);
        x.forget();
        state("a>y", ADDED);
        fresh();
        state("[ab]>x", ADDED);
        state("[cd]>x", ADDED + 1);
        state("[a-d]>x", ADDED + 2);
        state("[ac]>x", MASKED);
    }

    private static void otherwiseItCounts() {
        sentence(TERMS, "Otherwise it counts, and the answer is DEFINED, or ADDED + n for a rule, which becomes rule number n, from 0.");
        for (int n = 0; n < 8; n++) {
            String letter = "" + (char) ('a' + n);
            state("A=" + letter, DEFINED);
            state("Q>", UNDEFINED);
            state("z>1", SEGMENT);
            state(THIRTEEN + ">", LIMIT);
            state("z", SYNTAX);
            state(letter + ">x", ADDED + n);
            due.same("rules", x.rules(), n + 1);
            probes(n, PENDING, NO_MATCH);
            probes(n + 1, NONE, NONE);
        }
        x.restart();
        for (int n = 7; n >= 0; n--) {
            write("" + (char) ('a' + n));
            due.same("settle", x.settle(), 1);
            due.same("latest", x.latest(), n);
        }
        shows("xxxxxxxx|");
    }

    /** Whether the first rule masks the second. */
    private static void masking(boolean masks, String first, String second) {
        fresh();
        state(first, ADDED);
        type(second);
        due.same(first + " and then " + second, x.code(';'), masks ? MASKED : ADDED + 1);
        due.same("rules", x.rules(), masks ? 1 : 2);
    }

    private static void masksOnlyWithoutQuantifiers() {
        sentence(TERMS, "Rule m MASKS rule n when neither has a quantifier");
        masking(true, "a>x", "a>y");
        for (String quantifier : new String[] {"*", "+", "?"}) {
            masking(false, "a" + quantifier + ">x", "a>y");
            masking(false, "a>x", "a" + quantifier + ">y");
            masking(false, "a" + quantifier + ">x", "a" + quantifier + ">x");
            masking(false, ".{a>x", "." + quantifier + "b{a>y");
            masking(false, "." + quantifier + "{a>x", "b{a>y");
            masking(false, "a}b>x", "a}bc" + quantifier + ">y");
            masking(false, "a}." + quantifier + ">x", "a}b>y");
            masking(false, "ab" + quantifier + "c>x", "abc>y");
            masking(false, "abc>x", "ab" + quantifier + "c>y");
        }
    }

    private static void masksByLengths() {
        sentence(TERMS, "m's BEFORE has no more elements than n's");
        masking(true, "a>", "b{a>");
        masking(true, "b{a>", "b{a>");
        masking(true, "b{a>", "cb{a>");
        masking(false, "b{a>", "a>");
        masking(false, "cb{a>", "b{a>");
        masking(false, "b{a>", "{a>");
        masking(false, "b{a>", "ab>");
        masking(false, ".{.>", "...>");
        masking(true, "a>", "bcdefghijkl{a>");
        sentence(TERMS, "m's key and AFTER together have no more elements than n's key and AFTER together");
        masking(true, "a>", "ab>");
        masking(true, "a>", "a}b>");
        masking(true, "ab>", "ab>");
        masking(true, "ab>", "a}b>");
        masking(true, "a}b>", "ab>");
        masking(true, "a}bc>", "ab}c>");
        masking(true, "abc>", "a}bc>");
        masking(true, "ab}c>", "a}bcd>");
        masking(false, "ab>", "a>");
        masking(false, "a}b>", "a>");
        masking(false, "abc>", "ab>");
        masking(false, "a}bc>", "ab>");
        masking(false, "abc>", "a}b>");
        masking(false, "..>", "aaa{a>");
        masking(false, "ab>", "a{b>");
        masking(true, "a>", TWELVE + ">");
    }

    private static void masksByElements() {
        sentence(TERMS, "each element of m stands for all letters that the element of n stands for");
        masking(true, ".>", "a>");
        masking(true, ".>", ".>");
        masking(true, ".>", "[a-z]>");
        masking(true, "[a-z]>", ".>");
        masking(true, "[ab]>", "a>");
        masking(true, "[ab]>", "b>");
        masking(true, "[a-c]>", "[^d-z]>");
        masking(false, "a>", "b>");
        masking(false, "a>", "[ab]>");
        masking(false, "[ab]>", "[bc]>");
        masking(false, "[a-y]>", ".>");
        masking(false, "[b-z]>", ".>");
        masking(true, ".>", "[^a-z]>");
        masking(true, "a>", "[^a-z]>");
        masking(true, "[^a-z]>", "[^a-z]>");
        masking(false, "[^a-z]>", "a>");
        masking(true, "(a)>1|1", "a>");
        masking(true, "a>x", "(a)>1");
        fresh();
        state("A=[ab]", DEFINED);
        state("A>", ADDED);
        state("A=z", DEFINED);
        state("a>", MASKED);
        state("A>", ADDED + 1);
    }

    private static void masksByPlaces() {
        sentence(TERMS, "which has the same place counted from the beginning of the key (before it or behind it)");
        masking(true, "b{a>", "cb{a>");
        masking(false, "b{a>", "bc{a>");
        masking(false, "bc{a>", "cb{a>");
        masking(true, "cb{a>", "dcb{a>");
        masking(false, "cb{a>", "bb{a>");
        masking(false, "cb{a>", "cc{a>");
        masking(true, "ab>", "abc>");
        masking(false, "ab>", "cab>");
        masking(false, "ab>", "ba>");
        masking(false, "abc>", "abd>");
        masking(false, "abc>", "adc>");
        masking(false, "ab}c>", "ab}d>");
        masking(true, "a{bc}d>", "xa{b}cde>");
        masking(false, "a{bc}d>", "ax{b}cde>");
        masking(false, "a{bc}d>", "xa{b}cee>");
        masking(true, "abc{def}ghijkl>", "abc{def}ghijkl>");
        masking(false, "abc{def}ghijkl>", "abc{def}ghijkk>");
        masking(false, "abc{def}ghijkl>", "bbc{def}ghijkl>");
    }

    public static void main(String[] args) throws IOException {
        statementsEndWithSemicolon();
        spacesAreLeftOut();
        atMost48Characters();
        atMost48CharactersOfDefinition();
        definitions();
        parts();
        contexts();
        keyHasAnElement();
        segments();
        elements();
        ranges();
        quantifiers();
        replacements();
        whatElementsStandFor();
        whatCapitalsStandFor();
        laterDefinitionsChangeNothing();
        segmentNumbers();
        emptyAgainInAnyCase();
        nothingStaysOfAnEarlierOne();
        syntaxComesFirst();
        undefinedComesSecond();
        segmentComesThird();
        limitOfRules();
        limitOfElements();
        limitOfSegments();
        limitOfReplacement();
        maskedComesLast();
        otherwiseItCounts();
        masksOnlyWithoutQuantifiers();
        masksByLengths();
        masksByElements();
        masksByPlaces();
        end(args);
    }
}
