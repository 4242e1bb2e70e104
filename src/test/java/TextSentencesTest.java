import java.io.IOException;

/** The document's sentences on text, matching, applying and being STUCK, one by one, at their edges. */
public final class TextSentencesTest extends Trial {
    private static final String WRITING = "Promises 6, 9, 10 and 11 (Terms)";
    private static final String MATCHING = "Promises 7, 8 and 15 (Terms)";
    private static final String APPLYING = "Promises 7 and 8 (Terms)";
    private static final String STUCK = "Promises 7, 8 and 14 (Terms)";

    private static void atMost60Letters() {
        sentence(WRITING, "TEXT: at most 60 letters, in places 0, 1, ..");
        String sixty = ALPHABET + ALPHABET + "abcdefgh";
        write(sixty.substring(0, 59));
        due.same("length", x.length(), 59);
        due.same("the 60th", x.write('h'), true);
        due.same("the 61st", x.write('i'), false);
        due.same("length", x.length(), 60);
        for (int n = 0; n < 60; n++) {
            due.same("letter(" + n + ")", x.letter(n), sixty.charAt(n));
        }
        due.same("letter(60)", x.letter(60), 0);
        finishes(0, sixty + "|");
    }

    private static void cursorWithinTheText() {
        sentence(WRITING, "the CURSOR is a place 0 .. length");
        due.same("cursor of an empty text", x.cursor(), 0);
        finishes(0, "|");
        write(times("a", 60));
        due.same("cursor before", x.cursor(), 0);
        settles(0, times("a", 60) + "|");
        due.same("cursor behind", x.cursor(), 60);
        settles(0, times("a", 60) + "|");
        finishes(0, times("a", 60) + "|");
        due.same("cursor behind", x.cursor(), 60);
        fresh();
        state("a+>", ADDED);
        write("baaa");
        finishes(1, "b|");
        finishes(0, "b|");
    }

    private static void beforeGoesToTheBeginning() {
        sentence(MATCHING, "the elements of the BEFORE are taken from the last one to the first, going from the cursor towards the beginning of the text");
        matches("ab{c>", "abc", 2, MATCH, MATCH);
        matches("ba{c>", "abc", 2, NO_MATCH, NO_MATCH);
        matches("ab{c>", "xabc", 3, MATCH, MATCH);
        matches("ab{c>", "abxc", 3, NO_MATCH, NO_MATCH);
        matches("a?a{c>", "ac", 1, MATCH, MATCH);
        matches("aa?{c>", "ac", 1, NO_MATCH, NO_MATCH);
        matches("aa?{c>", "aac", 2, MATCH, MATCH);
        matches("ab*{c>", "abbbc", 4, MATCH, MATCH);
        matches("xab*{c>", "xabbbc", 5, MATCH, MATCH);
        matches("b*a{c>", "bbac", 3, MATCH, MATCH);
        matches("bcdefghijkl{a>", "bcdefghijkla", 11, MATCH, MATCH);
        matches("bcdefghijkl{a>", "ccdefghijkla", 11, NO_MATCH, NO_MATCH);
    }

    private static void keyAndAfterGoToTheEnd() {
        sentence(MATCHING, "then those of the key, and then those of the AFTER, from the first one to the last, going from the cursor towards the end.");
        matches("ab}cd>", "abcd", 0, MATCH, MATCH);
        matches("ab}dc>", "abcd", 0, NO_MATCH, NO_MATCH);
        matches("ba}cd>", "abcd", 0, NO_MATCH, NO_MATCH);
        matches("ab}cd>", "abxcd", 0, NO_MATCH, NO_MATCH);
        matches("ab}cd>", "xabcd", 0, NO_MATCH, NO_MATCH);
        matches("ab}cd>", "xabcd", 1, MATCH, MATCH);
        matches("a>", "ab", 1, NO_MATCH, NO_MATCH);
        matches("b>", "ab", 1, MATCH, MATCH);
        matches("aa?>", "ab", 0, MATCH, MATCH);
        matches("a?a>", "ab", 0, NO_MATCH, NO_MATCH);
        matches("a}aa?b>", "aab", 0, MATCH, MATCH);
        matches("a}a?ab>", "aab", 0, NO_MATCH, NO_MATCH);
        matches("a}bcdefghijkl>", "abcdefghijkl", 0, MATCH, MATCH);
        matches("a}bcdefghijkl>", "abcdefghijkk", 0, NO_MATCH, NO_MATCH);
    }

    private static void howManyLetters() {
        sentence(MATCHING, "An element without quantifier takes one letter, with '?' none or one, with '*' any number, with '+' one or more");
        becomes("(a)>1x", "aab", "axaxb|");
        becomes("(a?)>1x", "aab", "axaxb|");
        becomes("(a*)>1x", "aab", "aaxb|");
        becomes("(a+)>1x", "aab", "aaxb|");
        becomes("(a)b>1x", "b", "b|");
        becomes("(a?)b>1x", "b", "x|");
        becomes("(a*)b>1x", "b", "x|");
        becomes("(a+)b>1x", "b", "b|");
        becomes("(a)b>1x", "ab", "ax|");
        becomes("(a?)b>1x", "ab", "ax|");
        becomes("(a*)b>1x", "ab", "ax|");
        becomes("(a+)b>1x", "ab", "ax|");
        becomes("(a?)b>1x", "aab", "aax|");
        becomes("(a*)>x", times("a", 60), "x|");
        becomes("(a+)>x", times("a", 60), "x|");
        matches("xb{a>", "xbba", 3, NO_MATCH, NO_MATCH);
        matches("xb?{a>", "xbba", 3, NO_MATCH, NO_MATCH);
        matches("xb*{a>", "xbba", 3, MATCH, MATCH);
        matches("xb+{a>", "xbba", 3, MATCH, MATCH);
        matches("xb?{a>", "xa", 1, MATCH, MATCH);
        matches("xb*{a>", "xa", 1, MATCH, MATCH);
        matches("xb+{a>", "xa", 1, NO_MATCH, NO_MATCH);
        matches("xb*{a>", "x" + times("b", 58) + "a", 59, MATCH, MATCH);
        matches("xb+{a>", "x" + times("b", 58) + "a", 59, MATCH, MATCH);
        matches("a}bx>", "abbx", 0, NO_MATCH, NO_MATCH);
        matches("a}b?x>", "abbx", 0, NO_MATCH, NO_MATCH);
        matches("a}b*x>", "abbx", 0, MATCH, MATCH);
        matches("a}b+x>", "abbx", 0, MATCH, MATCH);
        matches("a}b?x>", "ax", 0, MATCH, MATCH);
        matches("a}b*x>", "ax", 0, MATCH, MATCH);
        matches("a}b+x>", "ax", 0, NO_MATCH, NO_MATCH);
        matches("a}b*x>", "a" + times("b", 58) + "x", 0, MATCH, MATCH);
    }

    private static void asManyAsItCan() {
        sentence(MATCHING, "always as many as it can, letter by letter: it goes on as long as it may take another, there is a letter at the place it has come to, and it stands for that letter.");
        becomes("([ab]*)>1x", "abcba", "abxcbax|");
        becomes("([ab]+)c>1x", "abccb", "abxcb|");
        becomes("(a*)(a*)b>1x2", "aab", "aax|");
        becomes("(a?)(a*)b>1x2", "aaab", "axaa|");
        becomes("(a?)(a?)b>1x2", "ab", "ax|");
        becomes("(.*)>1x", times("ab", 20), times("ab", 20) + "x|");
        becomes("([^a-z]*)(a)>1x2", "aa", "xaxa|");
        sentence(MATCHING, "(What it took is never given back.)");
        matches("a*a>", "aab", 0, NO_MATCH, NO_MATCH);
        matches("a+a>", "aab", 0, NO_MATCH, NO_MATCH);
        matches("a?a>", "ab", 0, NO_MATCH, NO_MATCH);
        matches("a?a>", "aab", 0, MATCH, MATCH);
        matches(".*a>", "aaa", 0, PENDING, NO_MATCH);
        matches("a*}a>", "aab", 0, NO_MATCH, NO_MATCH);
        matches("a}b*b>", "abbc", 0, NO_MATCH, NO_MATCH);
        matches("a}b?b>", "abc", 0, NO_MATCH, NO_MATCH);
        matches("bb*{a>", "bba", 2, NO_MATCH, NO_MATCH);
        matches("bb?{a>", "ba", 1, NO_MATCH, NO_MATCH);
        matches("bb+{a>", "cbba", 3, NO_MATCH, NO_MATCH);
    }

    private static void notEnough() {
        sentence(MATCHING, "When it could not take as many as it must, the rule does NOT MATCH.");
        matches("a>", "b", 0, NO_MATCH, NO_MATCH);
        matches("a+>", "b", 0, NO_MATCH, NO_MATCH);
        matches("ab>", "ac", 0, NO_MATCH, NO_MATCH);
        matches("ab+>", "ac", 0, NO_MATCH, NO_MATCH);
        matches("a}b>", "ac", 0, NO_MATCH, NO_MATCH);
        matches("a}b+>", "ac", 0, NO_MATCH, NO_MATCH);
        matches("b{a>", "ca", 1, NO_MATCH, NO_MATCH);
        matches("b+{a>", "ca", 1, NO_MATCH, NO_MATCH);
        matches("[^a-z]>", "a", 0, NO_MATCH, NO_MATCH);
        matches("a}[^a-z]>", "ab", 0, NO_MATCH, NO_MATCH);
        matches("[^a-z]{a>", "ba", 1, NO_MATCH, NO_MATCH);
        matches("ab>", "a", 0, PENDING, NO_MATCH);
        matches("ab+>", "a", 0, PENDING, NO_MATCH);
        matches("a}b>", "a", 0, PENDING, NO_MATCH);
        matches("a}b+>", "a", 0, PENDING, NO_MATCH);
        matches("ab*>", "ac", 0, MATCH, MATCH);
        matches("a}b*>", "ac", 0, MATCH, MATCH);
        matches("a}b?>", "ac", 0, MATCH, MATCH);
        matches("b*{a>", "ca", 1, MATCH, MATCH);
        matches("b?{a>", "ca", 1, MATCH, MATCH);
    }

    private static void keyWithoutLetters() {
        sentence(MATCHING, "It does not match either when all elements of the key together took no letter");
        matches("a*>", "b", 0, NO_MATCH, NO_MATCH);
        matches("a?>", "b", 0, NO_MATCH, NO_MATCH);
        matches("a?b*c?>", "d", 0, NO_MATCH, NO_MATCH);
        matches("(a*)>11", "b", 0, NO_MATCH, NO_MATCH);
        matches("x*{a*>", "xb", 1, NO_MATCH, NO_MATCH);
        matches("a*}b*>", "b", 0, NO_MATCH, NO_MATCH);
        matches("a*>", "", 0, PENDING, NO_MATCH);
        matches("x*{a*}b*>", "x", 1, PENDING, NO_MATCH);
        matches("a*b?>", "b", 0, MATCH, MATCH);
        matches("a?b*>", "ac", 0, MATCH, MATCH);
        matches("[^a-z]*>", "a", 0, NO_MATCH, NO_MATCH);
        becomes("a*>x", "bab", "bxb|");
        sentence(MATCHING, "that is seen before the AFTER.");
        matches("a*}b>", "b", 0, NO_MATCH, NO_MATCH);
        matches("a*}bc>", "b", 0, NO_MATCH, NO_MATCH);
        matches("a?}b*>", "bb", 0, NO_MATCH, NO_MATCH);
        matches("a?}b+>", "bb", 0, NO_MATCH, NO_MATCH);
        matches("a?}bc?>", "b", 0, NO_MATCH, NO_MATCH);
        fresh();
        state("a*}bc>x", ADDED);
        write("b");
        settles(0, "b|");
    }

    private static void pendingAtTheEnd() {
        sentence(MATCHING, "But when the text may still grow and an element of the key or AFTER may take another letter (by its quantifier, whatever it stands for) at the end of the text, the rule is PENDING at once.");
        matches("a>", "", 0, PENDING, NO_MATCH);
        matches("a?>", "", 0, PENDING, NO_MATCH);
        matches("a*>", "", 0, PENDING, NO_MATCH);
        matches("a+>", "", 0, PENDING, NO_MATCH);
        matches("ab>", "a", 0, PENDING, NO_MATCH);
        matches("ab?>", "a", 0, PENDING, MATCH);
        matches("a*>", "aa", 0, PENDING, MATCH);
        matches("a+>", "aa", 0, PENDING, MATCH);
        matches("a}b>", "a", 0, PENDING, NO_MATCH);
        matches("a}b?>", "a", 0, PENDING, MATCH);
        matches("a}b*>", "a", 0, PENDING, MATCH);
        matches("a}b*>", "ab", 0, PENDING, MATCH);
        matches("a}b+>", "ab", 0, PENDING, MATCH);
        matches("a*b>", "aa", 0, PENDING, NO_MATCH);
        matches("ab*c?}d>", "ab", 0, PENDING, NO_MATCH);
        matches("a>", "b", 1, PENDING, NO_MATCH);
    }

    private static void notPending() {
        sentence(MATCHING, "may take another letter (by its quantifier, whatever it stands for) at the end of the text");
        matches("a>", "a", 0, MATCH, MATCH);
        matches("a?>", "a", 0, MATCH, MATCH);
        matches("ab?>", "ab", 0, MATCH, MATCH);
        matches("a}b>", "ab", 0, MATCH, MATCH);
        matches("a}b?>", "ab", 0, MATCH, MATCH);
        matches("a*>", "ab", 0, MATCH, MATCH);
        matches("a+>", "ab", 0, MATCH, MATCH);
        matches("ab?>", "ac", 0, MATCH, MATCH);
        matches("a}b*>", "abc", 0, MATCH, MATCH);
        matches("a}b?>", "ac", 0, MATCH, MATCH);
        matches("a*b>", "aab", 0, MATCH, MATCH);
        matches("[^a-z]>", "", 0, PENDING, NO_MATCH);
        matches("a[^a-z]?>", "a", 0, PENDING, MATCH);
        matches("a[^a-z]*>", "a", 0, PENDING, MATCH);
        matches("a[^a-z]+>", "a", 0, PENDING, NO_MATCH);
        matches("a}[^a-z]>", "a", 0, PENDING, NO_MATCH);
        matches("a}[^a-z]*>", "a", 0, PENDING, MATCH);
        matches("a*[^a-z]>", "aa", 0, PENDING, NO_MATCH);
        matches("a}[^a-z]*>", "ab", 0, MATCH, MATCH);
    }

    private static void pendingInAFullText() {
        sentence(MATCHING, "when the text may still grow and an element of the key or AFTER may take another letter");
        matches("a*>", times("a", 60), 0, PENDING, MATCH);
        matches("a+>", times("a", 60), 0, PENDING, MATCH);
        matches("a}b?>", times("b", 59) + "a", 59, PENDING, MATCH);
        matches("ab>", times("b", 59) + "a", 59, PENDING, NO_MATCH);
        matches("a>", times("b", 60), 60, PENDING, NO_MATCH);
        matches("a>", times("b", 59) + "a", 59, MATCH, MATCH);
        fresh();
        state("a+>x", ADDED);
        write(times("a", 60));
        settles(0, "|" + times("a", 60));
        due.same("stuck", x.stuck(), false);
        finishes(1, "x|");
    }

    private static void firstDecides() {
        sentence(MATCHING, "What comes up first in this course decides.");
        matches("b{a>", "c", 1, NO_MATCH, NO_MATCH);
        matches("b{a*>", "c", 1, NO_MATCH, NO_MATCH);
        matches("b{a>", "b", 1, PENDING, NO_MATCH);
        matches("c{a}b>", "a", 0, NO_MATCH, NO_MATCH);
        matches("c{a+>", "a", 0, NO_MATCH, NO_MATCH);
        matches("ba*>", "a", 0, NO_MATCH, NO_MATCH);
        matches("ab}c*>", "ac", 0, NO_MATCH, NO_MATCH);
        matches("a}bc*>", "ac", 0, NO_MATCH, NO_MATCH);
        matches("a+b}c>", "a", 0, PENDING, NO_MATCH);
        matches("a*}c>", "", 0, PENDING, NO_MATCH);
        sentence(MATCHING, "(Before the beginning of the text there are no letters for certain.)");
        matches("b{a>", "a", 0, NO_MATCH, NO_MATCH);
        matches(".{a>", "a", 0, NO_MATCH, NO_MATCH);
        matches(".+{a>", "a", 0, NO_MATCH, NO_MATCH);
        matches("b{a>", "", 0, NO_MATCH, NO_MATCH);
        matches("bb{a>", "ba", 1, NO_MATCH, NO_MATCH);
        matches("b?{a>", "a", 0, MATCH, MATCH);
        matches("b*{a>", "a", 0, MATCH, MATCH);
        matches("b*{a>", "ba", 1, MATCH, MATCH);
        matches("b+{a>", "bba", 2, MATCH, MATCH);
        matches("b*{a>", times("b", 59) + "a", 59, MATCH, MATCH);
        matches("b?b?b?{a>", "bba", 2, MATCH, MATCH);
        sentence(MATCHING, "Otherwise it MATCHES.");
        matches("abcd{efgh}ijkl>", TWELVE, 4, MATCH, MATCH);
        matches(".*.{.}.>", "abcd", 2, MATCH, MATCH);
    }

    private static void rulesInOrder() {
        sentence(APPLYING, "Rules are tried in the order of their numbers, at the cursor, when the cursor is before the end of the text, until one matches or is pending.");
        becomes("a>x .>y", "ab", "xy|");
        becomes("ab>x a>y b>z", "abacb", "xycz|");
        becomes("a>p b>q c>r d>s e>t f>u g>v h>w", "hgfedcba", "wvutsrqp|");
        fresh();
        state("abc>x", ADDED);
        state("a>y", ADDED + 1);
        write("ab");
        probes(0, PENDING, NO_MATCH);
        probes(1, MATCH, MATCH);
        settles(0, "|ab");
        finishes(1, "yb|");
        fresh();
        state("a>y", ADDED);
        state("b*a+>x", ADDED + 1);
        write("a");
        probes(0, MATCH, MATCH);
        probes(1, PENDING, MATCH);
        settles(1, "y|");
        due.same("latest", x.latest(), 0);
        write("b");
        settles(0, "y|b");
        fresh();
        state("a>x", ADDED);
        settles(0, "|");
        write("b");
        settles(0, "b|");
        probes(0, PENDING, NO_MATCH);
        settles(0, "b|");
        finishes(0, "b|");
    }

    private static void replacing() {
        sentence(APPLYING, "If it matches, it is APPLIED: the letters that the key took are replaced by the replacement");
        becomes("a>", "a", "|");
        becomes("a>", "bab", "bb|");
        becomes("ab>", "xaby", "xy|");
        becomes("ab>p", "xaby", "xpy|");
        becomes("ab>pq", "xaby", "xpqy|");
        becomes("ab>pqr", "xaby", "xpqry|");
        becomes("x{ab}y>p", "xaby", "xpy|");
        becomes("a>" + TWELVE, "xay", "x" + TWELVE + "y|");
        becomes("a*>", "baab", "bb|");
        becomes("a>x", times("a", 60), times("x", 60) + "|");
        becomes("a*>x", times("b", 59) + "a", times("b", 59) + "x|");
        sentence(APPLYING, "in which a digit stands for the letters that the elements of the segment with that number took");
        becomes("(a)>1", "xay", "xay|");
        becomes("(a)>11", "xay", "xaay|");
        becomes("x(ab)y>1", "xaby", "ab|");
        becomes("x(a*)y>1", "xy", "|");
        becomes("x(a*)y>p1q1", "xy", "pq|");
        becomes("x(a*b?)y>1p1", "xaaby", "aabpaab|");
        becomes("(a*)(b*)(c)>1p2p3", "c", "ppc|");
        becomes("(.)(.+)x*>21", "abc", "bca|");
        becomes("(a+)>111", times("a", 20), times("a", 60) + "|");
        becomes("p{(a)}b>1x1", "pab", "paxab|");
    }

    private static void cursorAfterwards() {
        sentence(APPLYING, "the cursor comes to where the '|' is");
        becomes("ab>|a a>x", "ab", "x|");
        becomes("ab>b|ac a>x", "ab", "bxc|");
        becomes("ab>ba| a>x", "ab", "ba|");
        becomes("(a+)b>|1 a>x", "aab", "xx|");
        becomes("(a+)b>1|1 a>x", "aab", "aaxx|");
        becomes("(a+)b>1| a>x", "aab", "aa|");
        becomes("c(a*)b>1|d d>x", "cb", "x|");
        becomes("ab>| c>x", "abc", "x|");
        sentence(APPLYING, "or to the end of what was put in, if there is none.");
        becomes("ab>ba a>x", "ab", "ba|");
        becomes("ab> c>x", "abc", "x|");
        becomes("ab>cc c>x", "abc", "ccx|");
        becomes("(a+)b>1 a>x", "aaba", "aax|");
        fresh();
        state("a>bb", ADDED);
        state("c+>", ADDED + 1);
        write("xac");
        settles(1, "xbb|c");
    }

    private static void movingOn() {
        sentence(APPLYING, "If no rule matches or is pending, the cursor moves on by one.");
        becomes("ab>x", "aab", "ax|");
        becomes("aab>x", "aaab", "ax|");
        becomes("b>x", "aabaa", "aaxaa|");
        fresh();
        write("ab");
        settles(0, "ab|");
        fresh();
        state("b+>x", ADDED);
        write("aab");
        settles(0, "aa|b");
        sentence(APPLYING, "If a rule is pending, nothing is done.");
        state("ab>x", ADDED);
        write("ca");
        settles(0, "c|a");
        settles(0, "c|a");
        counts(0, NONE, false);
        write("b");
        settles(1, "cx|");
        fresh();
        state("a*>x", ADDED);
        state("a>y", ADDED + 1);
        write("aa");
        settles(0, "|aa");
        write("b");
        settles(1, "xb|");
        counts(1, 0, false);
    }

    private static void stuckBeyond60() {
        sentence(STUCK, "A rule is not applied, and the rewriter is STUCK, when the text would have more than 60 letters then");
        state("a>xy", ADDED);
        write(times("b", 58) + "a");
        settles(1, times("b", 58) + "xy|");
        due.same("stuck at 60", x.stuck(), false);
        x.restart();
        write(times("b", 59) + "a");
        settles(0, times("b", 59) + "|a");
        counts(0, NONE, true);
        x.restart();
        write("a" + times("b", 57) + "aa");
        finishes(0, "|a" + times("b", 57) + "aa");
        counts(0, NONE, true);
        fresh();
        state("ab>c", ADDED);
        state("d>e", ADDED + 1);
        write("abd" + times("b", 57));
        settles(2, "ce" + times("b", 57) + "|");
        counts(2, 1, false);
        fresh();
        state("(a+)>" + times("1", 12), ADDED);
        write("aaaaa");
        finishes(1, times("a", 60) + "|");
        due.same("stuck at 60", x.stuck(), false);
        x.restart();
        write(times("a", 60));
        finishes(0, "|" + times("a", 60));
        counts(0, NONE, true);
        fresh();
        state("(a*)b>111" + times("c", 9), ADDED);
        write(times("a", 17) + "b");
        finishes(1, times("a", 51) + times("c", 9) + "|");
        due.same("stuck at 60", x.stuck(), false);
        x.restart();
        write(times("a", 18) + "b");
        finishes(0, "|" + times("a", 18) + "b");
        due.same("stuck at 63", x.stuck(), true);
    }

    private static void onlyTheKeyIsReplaced() {
        sentence(STUCK, "when the text would have more than 60 letters then");
        String[] rules = {"a}b>xy", "a}bc*>xy", "c{a>xy", "c*{a}b>xy"};
        for (String rule : rules) {
            fresh();
            state(rule, ADDED);
            write(times("c", 57) + "ab");
            finishes(1, times("c", 57) + "xyb|");
            due.same("stuck at 60", x.stuck(), false);
            x.restart();
            write(times("c", 58) + "ab");
            finishes(0, times("c", 58) + "|ab");
            due.same("stuck at 61", x.stuck(), true);
        }
    }

    private static void stuckEvenIfALaterRuleFits() {
        sentence(STUCK, "A rule is not applied, and the rewriter is STUCK");
        state("ac>bbb", ADDED);
        state("a>b", ADDED + 1);
        write("ab" + times("c", 56) + "ac");
        settles(1, "bb" + times("c", 56) + "|ac");
        counts(1, 1, true);
        probes(0, MATCH, MATCH);
        probes(1, MATCH, MATCH);
        settles(0, "bb" + times("c", 56) + "|ac");
        finishes(0, "bb" + times("c", 56) + "|ac");
    }

    private static void hundredRulesAtOnce() {
        sentence(STUCK, "or 100 rules were applied since the latest restart.");
        state("a>|a", ADDED);
        write("ab");
        settles(100, "|ab");
        counts(100, 0, true);
        x.restart();
        write("ba");
        finishes(100, "b|a");
        counts(100, 0, true);
    }

    /** Has the rule 'a>' applied this many times, which leaves an empty text. */
    private static void applyInParts(int count) {
        for (int left = count; left > 0; left -= 50) {
            write(times("a", Math.min(left, 50)));
            due.same("settle", x.settle(), Math.min(left, 50));
        }
    }

    private static void hundredRulesInParts() {
        sentence(STUCK, "or 100 rules were applied since the latest restart.");
        state("a>", ADDED);
        applyInParts(99);
        counts(99, 0, false);
        write("aa");
        settles(1, "|a");
        counts(100, 0, true);
        x.restart();
        applyInParts(100);
        counts(100, 0, false);
        write("b");
        settles(0, "b|");
        finishes(0, "b|");
        due.same("stuck without a rule to apply", x.stuck(), false);
        write("a");
        finishes(0, "b|a");
        counts(100, 0, true);
    }

    private static void pendingAfterAHundred() {
        sentence(STUCK, "or 100 rules were applied since the latest restart.");
        state("a>", ADDED);
        state("b+>", ADDED + 1);
        applyInParts(100);
        write("bb");
        settles(0, "|bb");
        due.same("stuck while a rule is pending", x.stuck(), false);
        finishes(0, "|bb");
        counts(100, 0, true);
    }

    private static void hundredSinceTheLatestRestart() {
        sentence(STUCK, "100 rules were applied since the latest restart.");
        state("a>", ADDED);
        applyInParts(60);
        x.restart();
        applyInParts(60);
        counts(60, 0, false);
        x.forget();
        state("a>", ADDED);
        applyInParts(60);
        counts(60, 0, false);
    }

    public static void main(String[] args) throws IOException {
        atMost60Letters();
        cursorWithinTheText();
        beforeGoesToTheBeginning();
        keyAndAfterGoToTheEnd();
        howManyLetters();
        asManyAsItCan();
        notEnough();
        keyWithoutLetters();
        pendingAtTheEnd();
        notPending();
        pendingInAFullText();
        firstDecides();
        rulesInOrder();
        replacing();
        cursorAfterwards();
        movingOn();
        stuckBeyond60();
        onlyTheKeyIsReplaced();
        stuckEvenIfALaterRuleFits();
        hundredRulesAtOnce();
        hundredRulesInParts();
        pendingAfterAHundred();
        hundredSinceTheLatestRestart();
        end(args);
    }
}
