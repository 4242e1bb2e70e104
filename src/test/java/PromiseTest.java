/** The promises of the document one by one, with answers worked out by hand from its words. */
public final class PromiseTest extends Trial {
    private static void newObject() {
        on("promise 1");
        due.same("rules", x.rules(), 0);
        restarted();
        probes(0, NONE, NONE);
        due.same("; on an empty statement", x.code(';'), SYNTAX);
        for (char c = 'A'; c <= 'Z'; c++) {
            state(c + ">a", UNDEFINED);
        }
        write("ab");
        due.same("settle without rules", x.settle(), 0);
        shows("ab|");
    }

    private static void refusedCharacters() {
        on("promise 2, characters");
        for (int c = 0; c < 0x10000; c++) {
            freshWhenUsed();
            if (c < 32 || c > 126) {
                due.same("code(" + c + ")", x.code((char) c), REFUSED);
            }
        }
        for (char c = 33; c <= 126; c++) {
            if (c != ';') {
                on("promise 2, characters");
                due.same("code(" + c + ")", x.code(c), TAKEN);
            }
        }
        on("promise 2, refused ones change nothing");
        type("a");
        x.code((char) 31);
        x.code((char) 127);
        x.code((char) 0x161);
        type(" ");
        type(">b");
        state(" ", ADDED);
    }

    private static void fullStatement() {
        on("promise 2, 48 characters");
        String long47 = "[" + times("a-b", 14) + "c]>d";
        type(long47.substring(0, 30) + times(" ", 20) + long47.substring(30));
        type("e");
        due.same("the 49th", x.code('f'), REFUSED);
        due.same("a space then", x.code(' '), TAKEN);
        due.same("a foreign one then", x.code((char) 200), REFUSED);
        due.same("; then", x.code(';'), ADDED);
        write("c");
        due.same("finish", x.finish(), 1);
        shows("de|");
        type(times("a", 48));
        due.same("the 49th", x.code('>'), REFUSED);
        due.same("; then", x.code(';'), SYNTAX);
        state("x>y", ADDED + 1);
    }

    private static void rightSyntax() {
        String[] right = {"a>", "a>b", "a>|", "a>b|", "a>|b", "a>b|c", "{a>b", "a}>b", "{a}>b", "b{a}c>", ".>a", "[a]>b",
            "[^a]>b", "[ab-dc-c]>b", "[^a-z]>b", "a*b+c?>d", "a*{b>c", "b}c+>d", "(a)>1", "x(a)y>1", "(ab*c)(d)>21",
            "a{(b)}c>1", "(a)b(c)>12|12", "(.)([a-c]+)>1", "(a)(b)(c)>3", "a{b}[^x]?c*>abc|def"};
        for (String words : right) {
            on("statements that are rules");
            state(words, ADDED);
        }
        on("statements that are definitions");
        String[] definitions = {"A=a", "B=.", "Z=[a-z]", "C=[^abc]", "D=A", "A=A", " E = [ ^ a - c ] "};
        for (String words : definitions) {
            state(words, DEFINED);
        }
        due.same("rules", x.rules(), 0);
    }

    private static void wrongSyntax() {
        String[] wrong = {"", "a", ">", ">b", "a>b>c", "a>B", "a>.", "a>0", "a>4", "a>||", "a>|b|", "a>*", "*a>b", "a**>b",
            "a+?>b", "()>b", "a()>b", "(a>b", "a)>b", "((a))>b", "((a)>b", "(a(b)>c",
            "(a(b)c)>b", "(a)*>b", "(*a)>b", ")a(>b", "(a)>b)", "{>b", "}>b",
            "{}>b", "a{>b", "a{}c>b", "a{b{c>d", "a}b}c>d", "a}b{c>d", "(a){b>c", "a}(b)>c", "a{b}c", "a}b", "a{b", "[]>b",
            "[^]>b", "[a>b", "a]>b", "[b-a]>b", "[c-a]>b", "[xb-a]>b",
            "[a-]>b", "[-a]>b", "[a-b-c]>d", "[A]>b", "[.]>b", "[a^]>b", "[^^a]>b", "[a*]>b",
            "[[a]]>b", "[a-B]>c", "A=", "A", "A=ab", "A=a*", "A=(a)", "A=a>b", "a=b", "AB=c", "A==a", "=a", "A=[]", "A=[b-a]",
            "1>a", "a1>b", "a>b{", "a>b}", "a>(b)", "a#>b", "a>b_", "(a}b)>c", "a{(b>c", "(a[)]>b", "{{a>b", "a}}>b", "[^-a]>b",
            "(a}>b", "([)>b", "A=[", "A={", "[a-c", "a?+>b", "|a>b", "a|>b", "a{b}c}>d"};
        for (String words : wrong) {
            on("statements that are nothing");
            state(words, SYNTAX);
            due.same("rules", x.rules(), 0);
            state("a>b", ADDED);
        }
        on("a wrong definition defines nothing");
        state("A=a*", SYNTAX);
        state("A=[b-a]", SYNTAX);
        state("A>b", UNDEFINED);
    }

    private static void orderOfAnswers() {
        on("the first answer that holds");
        String thirteen = times("a", 13);
        state("A>1|2|", SYNTAX);
        state("A>1", UNDEFINED);
        state("A" + thirteen + ">1", UNDEFINED);
        state(thirteen + "A>b", UNDEFINED);
        state("A{a>b", UNDEFINED);
        state("a}bA*>b", UNDEFINED);
        state("a(bA)>b", UNDEFINED);
        state("A=B", UNDEFINED);
        state("A=A", UNDEFINED);
        state("B=b", DEFINED);
        state("AB>c", UNDEFINED);
        state("BAB>c", UNDEFINED);
        state("A>b", UNDEFINED);
        state(thirteen + ">1", SEGMENT);
        state("(a)>12", SEGMENT);
        state("(a)(b)>3" + thirteen, SEGMENT);
        state("(a)(b)(c)(d)>3", LIMIT);
        state(".>b", ADDED);
        state("(a)>2", SEGMENT);
        state(thirteen + ">b", LIMIT);
        state("a>c", MASKED);
        state("A>c", UNDEFINED);
        for (int n = 1; n < 8; n++) {
            state("a*>c", ADDED + n);
        }
        state("a>c", LIMIT);
        state("a*>c", LIMIT);
        state("a>1", SEGMENT);
        state("A>b", UNDEFINED);
        state("a>", LIMIT);
        state("a", SYNTAX);
        due.same("rules", x.rules(), 8);
        state("A=a", DEFINED);
        state("A>b", LIMIT);
        due.same("rule 8", x.probe(8, true), NONE);
    }

    private static void limits() {
        on("limits");
        String twelve = "abcdefghijkl";
        state(twelve + "m>x", LIMIT);
        state("abcd{efgh}ijklm>x", LIMIT);
        state("abcd{efgh}ijkl>x", ADDED);
        state("m>" + twelve + "m", LIMIT);
        state("m>" + twelve + "|m", LIMIT);
        state("(m)>11111111111" + "11", LIMIT);
        state("(m)>1111111|11111", ADDED + 1);
        state("(m)(n)(o)(p)>", LIMIT);
        state("(m)(n)o(p)>" , MASKED);
        state("(n)(n)(n)n(n)>", LIMIT);
        state("(n)(n)n(n)>", ADDED + 2);
        state("[a-z]*[a-z]*[a-z]*[a-z]*[a-z]*[a-z]*[a-z]*>x", ADDED + 3);
        write("abcdefghijkl");
        probes(0, NO_MATCH, NO_MATCH);
        due.same("settle", x.settle(), 0);
        shows("|abcdefghijkl");
    }

    private static void definitions() {
        on("what capital letters stand for");
        state("A=[a-c]", DEFINED);
        state("B=A", DEFINED);
        state("A>x", ADDED);
        state("A=d", DEFINED);
        state("B>y", MASKED);
        state("A>y", ADDED + 1);
        state("A=B", DEFINED);
        state("A>z", MASKED);
        state("N=[^a-z]", DEFINED);
        state("N*e>n", ADDED + 2);
        write("abcde");
        due.same("finish", x.finish(), 5);
        shows("xxxyn|");
        on("letters of brackets");
        state("[^b-yd-e]>1", SEGMENT);
        state("[^b-yd-e]>x", ADDED);
        write("abmyz");
        due.same("finish", x.finish(), 2);
        shows("xbmyx|");
        on("each letter, all letters and none");
        state("z>1", SEGMENT);
        state("[^a-z]>x", ADDED);
        state("z>a", ADDED + 1);
        state("a>z", ADDED + 2);
        state(".>m", ADDED + 3);
        write("azbymn");
        due.same("finish", x.finish(), 6);
        shows("zammmm|");
    }

    private static void masks() {
        on("masking");
        state("a{[b-d]e}f>x", ADDED);
        state("a{be}f>y", MASKED);
        state("ca{be}fg>y", MASKED);
        state("ac{be}f>y", ADDED + 1);
        state("{be}f>y", ADDED + 2);
        state("a{bef>y", MASKED);
        state("a{b}ef>y", MASKED);
        state("a{b>y", ADDED + 3);
        state("[ab]{[b-e]e}f>y", ADDED + 4);
        state("a{be?}f>y", ADDED + 5);
        state("a?a{be}f>y", ADDED + 6);
        on("masking, quantifiers of the earlier one");
        state(".*>x", ADDED);
        state("a>x", ADDED + 1);
        state("a>x", MASKED);
        state("a+>x", ADDED + 2);
        state("a}b?>x", ADDED + 3);
        state("a}b>x", MASKED);
        on("masking by an element of no letters, and of one");
        state("[^a-z]>x", ADDED);
        state("a>x", ADDED + 1);
        state("[^a-z]>x", MASKED);
        state("ab>x", MASKED);
        state("ba>x", ADDED + 2);
        state("b{a>x", MASKED);
        state("(a)>1|1", MASKED);
        due.same("rules", x.rules(), 3);
        x.forget();
        state("b{a>x", ADDED);
        state("a>x", ADDED + 1);
    }

    private static void rulesCountAtOnce() {
        on("promise 2, rules count for the text that is there");
        write("ab");
        state("a>x", ADDED);
        due.same("settle", x.settle(), 1);
        shows("xb|");
        state("b>y", ADDED + 1);
        due.same("settle at the end", x.settle(), 0);
        shows("xb|");
    }

    private static void rulesForgetRestart() {
        on("promises 3, 4 and 5");
        state("A=a", DEFINED);
        state("A>|b", ADDED);
        due.same("rules", x.rules(), 1);
        state("c>|cc", ADDED + 1);
        due.same("rules", x.rules(), 2);
        write("ac");
        type("b{A+");
        due.same("settle", x.settle(), 59);
        due.same("stuck", x.stuck(), true);
        due.same("applied", x.applied(), 59);
        due.same("latest", x.latest(), 1);
        x.restart();
        restarted();
        due.same("rules after restart", x.rules(), 2);
        write("a");
        due.same("finish", x.finish(), 1);
        state(">d", ADDED + 2);
        due.same("rules", x.rules(), 3);
        type("x>");
        x.forget();
        due.same("rules after forget", x.rules(), 0);
        restarted();
        probes(0, NONE, NONE);
        due.same("; after forget", x.code(';'), SYNTAX);
        state("A>b", UNDEFINED);
        state("c>d", ADDED);
        write("c");
        due.same("finish", x.finish(), 1);
        shows("d|");
        x.forget();
        restarted();
        write("c");
        due.same("finish", x.finish(), 0);
        shows("c|");
    }

    private static void writing() {
        on("promise 6");
        for (int c = 0; c < 0x10000; c++) {
            freshWhenUsed();
            if (c < 'a' || c > 'z') {
                due.same("write(" + c + ")", x.write((char) c), false);
            }
        }
        due.same("length", x.length(), 0);
        on("promise 6");
        write("abcdefghijklmnopqrstuvwxyz");
        shows("|abcdefghijklmnopqrstuvwxyz");
        write(times("q", 34));
        due.same("the 61st", x.write('r'), false);
        due.same("length", x.length(), 60);
        due.same("letter(59)", x.letter(59), 'q');
        due.same("letter(60)", x.letter(60), 0);
        state("q>", ADDED);
        due.same("finish", x.finish(), 35);
        due.same("length", x.length(), 25);
        write("q");
        due.same("length", x.length(), 26);
        on("promise 6, stuck");
        state("a>|a", ADDED);
        write("ab");
        x.finish();
        due.same("write when stuck", x.write('a'), false);
        shows("|ab");
    }

    private static void settling() {
        on("promise 7");
        state("ab>x", ADDED);
        state("a>y", ADDED + 1);
        write("a");
        due.same("settle", x.settle(), 0);
        shows("|a");
        write("c");
        due.same("settle", x.settle(), 1);
        shows("yc|");
        write("ab");
        due.same("settle", x.settle(), 1);
        shows("ycx|");
        write("a");
        due.same("settle", x.settle(), 0);
        due.same("settle again", x.settle(), 0);
        shows("ycx|a");
        due.same("finish", x.finish(), 1);
        shows("ycxy|");
        on("promise 7, an earlier rule that is pending holds a later one that matches");
        state("abc>x", ADDED);
        state("a>y", ADDED + 1);
        write("ab");
        probes(0, PENDING, NO_MATCH);
        probes(1, MATCH, MATCH);
        due.same("settle", x.settle(), 0);
        shows("|ab");
        due.same("finish", x.finish(), 1);
        shows("yb|");
        on("promise 7, an earlier rule that matches is not held by a later one");
        state("a>y", ADDED);
        state("b*a+>x", ADDED + 1);
        write("a");
        probes(1, PENDING, MATCH);
        due.same("settle", x.settle(), 1);
        shows("y|");
    }

    private static void finishing() {
        on("promise 8");
        state("a+}b?>x", ADDED);
        write("aa");
        due.same("settle", x.settle(), 0);
        shows("|aa");
        due.same("finish", x.finish(), 1);
        shows("x|");
        write("ab");
        shows("x|ab");
        due.same("settle", x.settle(), 1);
        shows("xxb|");
        due.same("finish at the end", x.finish(), 0);
        write("aab");
        due.same("finish", x.finish(), 1);
        shows("xxbxb|");
        due.same("applied", x.applied(), 3);
    }

    private static void reading() {
        on("promises 9, 10 and 11");
        write("az");
        due.same("length", x.length(), 2);
        due.same("letter(0)", x.letter(0), 97);
        due.same("letter(1)", x.letter(1), 122);
        int[] outside = {2, 3, 59, 60, 61, -1, -2, Integer.MAX_VALUE, Integer.MIN_VALUE};
        for (int place : outside) {
            due.same("letter(" + place + ")", x.letter(place), 0);
        }
        due.same("cursor", x.cursor(), 0);
        x.settle();
        due.same("cursor", x.cursor(), 2);
        state("[b-y]+>", ADDED);
        write("bbbbc");
        x.finish();
        due.same("length", x.length(), 2);
        due.same("cursor", x.cursor(), 2);
        due.same("a letter that is gone", x.letter(2), 0);
    }

    private static void counting() {
        on("promises 12 and 13");
        state("a>b|", ADDED);
        state("c>|a", ADDED + 1);
        write("c");
        due.same("latest", x.latest(), NONE);
        due.same("finish", x.finish(), 2);
        due.same("applied", x.applied(), 2);
        due.same("latest", x.latest(), 0);
        write("dd");
        due.same("finish", x.finish(), 0);
        due.same("applied", x.applied(), 2);
        due.same("latest", x.latest(), 0);
        state("e>", ADDED + 2);
        write("e");
        due.same("settle", x.settle(), 1);
        due.same("applied", x.applied(), 3);
        due.same("latest", x.latest(), 2);
        shows("bdd|");
    }

    private static void stuckAtTheHundredAndFirst() {
        on("promise 14, the rule after the hundredth");
        state("a>", ADDED);
        for (int n = 0; n < 50; n++) {
            write("aa");
            due.same("finish", x.finish(), 2);
        }
        due.same("applied", x.applied(), 100);
        due.same("stuck", x.stuck(), false);
        write("bb");
        due.same("finish without a match", x.finish(), 0);
        due.same("stuck", x.stuck(), false);
        write("cad");
        due.same("finish", x.finish(), 0);
        due.same("stuck", x.stuck(), true);
        shows("bbc|ad");
        due.same("applied", x.applied(), 100);
        due.same("latest", x.latest(), 0);
        probes(0, MATCH, MATCH);
        due.same("write", x.write('a'), false);
        x.restart();
        restarted();
        write("a");
        due.same("finish", x.finish(), 1);
    }

    private static void stuckByLength() {
        on("promise 14, more than 60 letters");
        state("(.)(.)>1212|1", ADDED);
        write(times("xy", 27) + "zzzz");
        due.same("settle", x.settle(), 0);
        due.same("stuck", x.stuck(), true);
        shows("|" + times("xy", 27) + "zzzz");
        x.restart();
        write(times("x", 57));
        due.same("settle", x.settle(), 1);
        due.same("stuck", x.stuck(), true);
        shows("xxxx|" + times("x", 56));
        on("promise 14, far more than 60 letters");
        state("(a+)>111111111111", ADDED);
        state("b>a", ADDED + 1);
        write(times("a", 60));
        due.same("settle", x.settle(), 0);
        due.same("stuck", x.stuck(), false);
        due.same("finish", x.finish(), 0);
        due.same("stuck", x.stuck(), true);
        due.same("length", x.length(), 60);
        x.restart();
        write("aaaaa");
        due.same("finish", x.finish(), 1);
        due.same("stuck", x.stuck(), false);
        shows(times("a", 60) + "|");
        on("promise 14, the text may stay at 60");
        state("a>b", ADDED);
        write(times("a", 60));
        due.same("settle", x.settle(), 60);
        due.same("stuck", x.stuck(), false);
    }

    private static void stuckDoesNothing() {
        on("what a stuck rewriter does");
        state("a>|a", ADDED);
        write("ab");
        due.same("settle", x.settle(), 100);
        due.same("stuck", x.stuck(), true);
        state("b>c", ADDED + 1);
        due.same("settle", x.settle(), 0);
        due.same("finish", x.finish(), 0);
        shows("|ab");
        due.same("applied", x.applied(), 100);
        x.forget();
        restarted();
    }

    private static void probing() {
        on("promise 15");
        int[] none = {0, 1, 7, 8, -1, Integer.MAX_VALUE, Integer.MIN_VALUE};
        for (int rule : none) {
            probes(rule, NONE, NONE);
        }
        state("a>x", ADDED);
        probes(0, PENDING, NO_MATCH);
        probes(1, NONE, NONE);
        probes(-1, NONE, NONE);
        write("a");
        probes(0, MATCH, MATCH);
        shows("|a");
        due.same("applied", x.applied(), 0);
        state("b{a>x", MASKED);
        state("b{.>x", ADDED + 1);
        probes(1, NO_MATCH, NO_MATCH);
        x.settle();
        probes(0, PENDING, NO_MATCH);
        probes(1, NO_MATCH, NO_MATCH);
    }

    private static void matching() {
        on("matching");
        matches("a>", "b", 0, NO_MATCH, NO_MATCH);
        matches("a*>", "b", 0, NO_MATCH, NO_MATCH);
        matches("a*>", "", 0, PENDING, NO_MATCH);
        matches("a*>", "a", 0, PENDING, MATCH);
        matches("a*>", "aab", 0, MATCH, MATCH);
        matches("a*>", times("a", 60), 0, PENDING, MATCH);
        matches("a+>", times("a", 60), 0, PENDING, MATCH);
        matches("a+>", "b", 0, NO_MATCH, NO_MATCH);
        matches("a?>", "a", 0, MATCH, MATCH);
        matches("a?>", "b", 0, NO_MATCH, NO_MATCH);
        matches("a?b>", "a", 0, PENDING, NO_MATCH);
        matches("a?b>", "b", 0, MATCH, MATCH);
        matches("a*a>", "aa", 0, PENDING, NO_MATCH);
        matches("a*a>", "aab", 0, NO_MATCH, NO_MATCH);
        matches("a?a>", "a", 0, PENDING, NO_MATCH);
        matches("a?a>", "aa", 0, MATCH, MATCH);
        matches("ab>", "a", 0, PENDING, NO_MATCH);
        matches("[^a-z]>", "", 0, PENDING, NO_MATCH);
        matches("a[^a-z]?>", "a", 0, PENDING, MATCH);
        matches("a[^a-z]>", "a", 0, PENDING, NO_MATCH);
        matches("a[^a-z]*>", "ab", 0, MATCH, MATCH);
        matches("a}b>", "a", 0, PENDING, NO_MATCH);
        matches("a}b>", "ab", 0, MATCH, MATCH);
        matches("a}b>", "ac", 0, NO_MATCH, NO_MATCH);
        matches("a}b*>", "a", 0, PENDING, MATCH);
        matches("a}b*>", "abb", 0, PENDING, MATCH);
        matches("a}b*c>", "abbc", 0, MATCH, MATCH);
        matches("a}b?c>", "acc", 0, MATCH, MATCH);
        matches("a*}b>", "b", 0, NO_MATCH, NO_MATCH);
        matches("a*}b*>", "c", 0, NO_MATCH, NO_MATCH);
        matches("a?b?}c>", "d", 0, NO_MATCH, NO_MATCH);
        matches("a?b?}c>", "bc", 0, MATCH, MATCH);
        matches("b{a>", "a", 0, NO_MATCH, NO_MATCH);
        matches("b{a>", "", 0, NO_MATCH, NO_MATCH);
        matches("b?{a>", "a", 0, MATCH, MATCH);
        matches("b*{a>", "bba", 2, MATCH, MATCH);
        matches("b+{a>", "bba", 2, MATCH, MATCH);
        matches("b+{a>", "ca", 1, NO_MATCH, NO_MATCH);
        matches("b+{a>", "a", 0, NO_MATCH, NO_MATCH);
        matches("bb+{a>", "bbba", 3, NO_MATCH, NO_MATCH);
        matches("cb+{a>", "cbba", 3, MATCH, MATCH);
        matches("cb{a>", "cba", 2, MATCH, MATCH);
        matches("bc{a>", "cba", 2, NO_MATCH, NO_MATCH);
        matches("ab?{c>", "ac", 1, MATCH, MATCH);
        matches("ab?{c>", "abc", 2, MATCH, MATCH);
        matches("ab?{c>", "abbc", 3, NO_MATCH, NO_MATCH);
        matches("a{c>", "a", 1, PENDING, NO_MATCH);
        matches("b{c>", "a", 1, NO_MATCH, NO_MATCH);
        matches("ab>", "ac", 0, NO_MATCH, NO_MATCH);
        matches("ab{c}d>", "abcd", 2, MATCH, MATCH);
        matches("{a}>", "ab", 0, MATCH, MATCH);
    }

    private static void applying() {
        on("applying");
        becomes("ab>", "cabd", "cd|");
        becomes("ab>xyz", "cabd", "cxyzd|");
        becomes("(a)(b)>21", "cabd", "cbad|");
        becomes("(a+)(b*)c(d?)>3x21", "aabcde", "dxbaae|");
        becomes("(a+)(b*)c(d?)>3x21", "ace", "xae|");
        becomes("x(ab)y>11", "xaby", "abab|");
        becomes("x(a*b?)y>1p1", "xaaby", "aabpaab|");
        becomes("a>b|b b>c", "aa", "bcbc|");
        becomes("a>b|ac", "a", times("b", 29) + "|a" + times("c", 29));
        becomes("(a+)b>|1 a>x", "aab", "xx|");
        becomes("(a+)b>1| a>x", "aab", "aa|");
        becomes("(a+)b>1|1 a>x", "aab", "aaxx|");
        becomes("a{b>c c{b>d", "abbb", "acdb|");
        becomes("b}c>x c>y", "bc", "xy|");
        becomes("a(b)}c>1", "abc", "bc|");
        becomes("x{(a)b>1|", "xabx", "xax|");
        becomes("a>x .>y", "ab", "xy|");
        becomes("(.)(.)(.)>3|2", "abcabc", "cbac|");
    }

    private static void cursorAfterApplying() {
        on("where the cursor comes to");
        state("(a+)b>c1|1", ADDED);
        state("a>", ADDED + 1);
        write("zaab");
        due.same("settle", x.settle(), 1);
        shows("zcaa|aa");
        due.same("latest", x.latest(), 0);
        due.same("finish", x.finish(), 2);
        shows("zcaa|");
        due.same("latest", x.latest(), 1);
    }

    public static void main(String[] args) {
        newObject();
        refusedCharacters();
        fullStatement();
        rightSyntax();
        wrongSyntax();
        orderOfAnswers();
        limits();
        definitions();
        masks();
        rulesCountAtOnce();
        rulesForgetRestart();
        writing();
        settling();
        finishing();
        reading();
        counting();
        stuckAtTheHundredAndFirst();
        stuckByLength();
        stuckDoesNothing();
        probing();
        matching();
        applying();
        cursorAfterApplying();
        due.end();
    }
}
