/**
 * Rewrites a text of small letters by rules with contexts, sets, repetitions, segments and a cursor,
 * all at once or while the text is still being typed.
 */
public final class CursorRewriter {
    public static final int NONE = -1;
    public static final int TAKEN = 0, DEFINED = 1, ADDED = 10, SYNTAX = -1, UNDEFINED = -2, SEGMENT = -3, LIMIT = -4, MASKED = -5, REFUSED = -6;
    public static final int NO_MATCH = 0, MATCH = 1, PENDING = 2;

    private static final int MOST_RULES = 8;
    private static final int MOST_TYPED = 48;
    private static final int MOST_ELEMENTS = 12;
    private static final int MOST_SEGMENTS = 3;
    private static final int MOST_PIECES = 12;
    private static final int MOST_LETTERS = 60;
    private static final int MOST_APPLIED = 100;

    // Every round but the last applies a rule or moves the cursor on, and the cursor never goes back.
    private static final int MOST_ROUNDS = MOST_APPLIED + MOST_LETTERS + 1;

    private final Statement statement;
    private final Rule[] ruleRow;
    private int ruleCount;
    private final Text text;
    private final Match match;
    private int appliedCount;
    private int latestRule;
    private boolean isStuck;

    public CursorRewriter() {
        statement = new Statement();
        // One more than can count: a statement is always read into the first free rule.
        ruleRow = new Rule[MOST_RULES + 1];
        for (int n = 0; n <= MOST_RULES; n++) {
            ruleRow[n] = new Rule();
        }
        ruleCount = 0;
        text = new Text();
        match = new Match();
        appliedCount = 0;
        latestRule = NONE;
        isStuck = false;
    }

    public int code(char c) {
        if (c < ' ' || c > '~') {
            return REFUSED;
        }
        if (c == ' ') {
            return TAKEN;
        }
        if (c == ';') {
            int answer = statement.looksLikeDefinition() ? endDefinition() : endRule();
            statement.clear();
            return answer;
        }
        return statement.type(c) ? TAKEN : REFUSED;
    }

    public int rules() {
        return ruleCount;
    }

    public void forget() {
        ruleCount = 0;
        statement.clear();
        statement.clearMeanings();
        restart();
    }

    public void restart() {
        text.clear();
        appliedCount = 0;
        latestRule = NONE;
        isStuck = false;
    }

    public boolean write(char c) {
        if (isStuck || !isSmall(c)) {
            return false;
        }
        return text.append(c);
    }

    public int settle() {
        return rewrite(false);
    }

    public int finish() {
        return rewrite(true);
    }

    public int length() {
        return text.size;
    }

    public int letter(int place) {
        return place >= 0 && place < text.size ? text.letters[place] : 0;
    }

    public int cursor() {
        return text.place;
    }

    public int applied() {
        return appliedCount;
    }

    public int latest() {
        return latestRule;
    }

    public boolean stuck() {
        return isStuck;
    }

    public int probe(int rule, boolean last) {
        if (rule < 0 || rule >= ruleCount) {
            return NONE;
        }
        return match.run(ruleRow[rule], text, last);
    }

    private int endDefinition() {
        if (!statement.readDefinition()) {
            return SYNTAX;
        }
        if (statement.sawUndefined) {
            return UNDEFINED;
        }
        statement.define();
        return DEFINED;
    }

    private int endRule() {
        Rule rule = ruleRow[ruleCount];
        rule.clear();
        if (!statement.readRule(rule)) {
            return SYNTAX;
        }
        if (statement.sawUndefined) {
            return UNDEFINED;
        }
        if (rule.greatestDigit > rule.segmentCount) {
            return SEGMENT;
        }
        if (ruleCount >= MOST_RULES || rule.isTooLarge()) {
            return LIMIT;
        }
        if (isMasked(rule)) {
            return MASKED;
        }
        ruleCount++;
        return ADDED + ruleCount - 1;
    }

    private boolean isMasked(Rule rule) {
        for (int n = 0; n < ruleCount; n++) {
            if (ruleRow[n].masks(rule)) {
                return true;
            }
        }
        return false;
    }

    private int rewrite(boolean last) {
        int appliedBefore = appliedCount;
        boolean goesOn = !isStuck;
        for (int round = 0; round < MOST_ROUNDS && goesOn && text.place < text.size; round++) {
            goesOn = doAtCursor(last);
        }
        return appliedCount - appliedBefore;
    }

    /** Answers whether there may be more to do. */
    private boolean doAtCursor(boolean last) {
        for (int n = 0; n < ruleCount; n++) {
            int found = match.run(ruleRow[n], text, last);
            if (found == PENDING) {
                return false;
            }
            if (found == MATCH) {
                return apply(n);
            }
        }
        text.place++;
        return true;
    }

    /** Answers whether the rule was applied; if not, the rewriter is stuck. */
    private boolean apply(int number) {
        Rule rule = ruleRow[number];
        if (appliedCount >= MOST_APPLIED || text.sizeAfter(rule, match) > MOST_LETTERS) {
            isStuck = true;
            return false;
        }
        text.replace(rule, match);
        appliedCount++;
        latestRule = number;
        return true;
    }

    private static boolean isSmall(char c) {
        return c >= 'a' && c <= 'z';
    }

    private static boolean isCapital(char c) {
        return c >= 'A' && c <= 'Z';
    }

    /** The characters of the statement that is being typed, how they are read, and what the capital letters mean. */
    private static final class Statement {
        private static final int ALL_LETTERS = (1 << 26) - 1;
        // No set of letters has this value, not even the empty one.
        private static final int NO_MEANING = -1;
        // Never typed, so that a look behind the end meets no character of the language.
        private static final char END = 0;

        private final char[] typed = new char[MOST_TYPED];
        private int count = 0;
        private int at = 0;
        private final int[] meanings = new int[26];
        private int set = 0;
        private boolean sawUndefined = false;

        Statement() {
            clearMeanings();
        }

        void clear() {
            count = 0;
        }

        void clearMeanings() {
            for (int n = 0; n < 26; n++) {
                meanings[n] = NO_MEANING;
            }
        }

        boolean type(char c) {
            if (count >= MOST_TYPED) {
                return false;
            }
            typed[count] = c;
            count++;
            return true;
        }

        /** No rule has a '=', so what looks like a definition is one or is nothing. */
        boolean looksLikeDefinition() {
            return count >= 2 && isCapital(typed[0]) && typed[1] == '=';
        }

        /** Answers whether it is a definition; the set is what its element stands for. */
        boolean readDefinition() {
            at = 2;
            sawUndefined = false;
            return readElement() && at == count;
        }

        void define() {
            if (isCapital(typed[0])) {
                meanings[typed[0] - 'A'] = set;
            }
        }

        /** Answers whether it is a rule. */
        boolean readRule(Rule rule) {
            at = 0;
            sawUndefined = false;
            if (hasOpeningBrace() && !(readContext(rule) && skip('{'))) {
                return false;
            }
            rule.keyStart = rule.elementCount;
            if (!readKey(rule)) {
                return false;
            }
            rule.keyEnd = rule.elementCount;
            if (skip('}') && !readContext(rule)) {
                return false;
            }
            return skip('>') && readReplacement(rule);
        }

        /** A '{' has no other use than behind the BEFORE. */
        private boolean hasOpeningBrace() {
            for (int n = 0; n < count; n++) {
                if (typed[n] == '{') {
                    return true;
                }
            }
            return false;
        }

        private boolean readContext(Rule rule) {
            for (int n = 0; n < count && beginsElement(next()); n++) {
                if (!readElement()) {
                    return false;
                }
                rule.addElement(set, readQuantifier());
            }
            return true;
        }

        private boolean readKey(Rule rule) {
            boolean inSegment = false;
            int segmentStart = rule.elementCount;
            for (int n = 0; n < count; n++) {
                if (!inSegment && skip('(')) {
                    inSegment = true;
                    segmentStart = rule.elementCount;
                } else if (inSegment && rule.elementCount > segmentStart && skip(')')) {
                    inSegment = false;
                    rule.addSegment(segmentStart);
                } else if (!beginsElement(next())) {
                    break;
                } else if (!readElement()) {
                    return false;
                } else {
                    rule.addElement(set, readQuantifier());
                }
            }
            return !inSegment && rule.elementCount > rule.keyStart;
        }

        /** Reads all that is left. */
        private boolean readReplacement(Rule rule) {
            boolean hasMark = false;
            for (; at < count; at++) {
                char c = typed[at];
                if (c == '|' && !hasMark) {
                    hasMark = true;
                    rule.mark = rule.pieceCount;
                } else if (isSmall(c) || c >= '1' && c <= '3') {
                    rule.addPiece(c);
                } else {
                    return false;
                }
            }
            if (!hasMark) {
                rule.mark = rule.pieceCount;
            }
            return true;
        }

        private boolean readElement() {
            char c = next();
            at++;
            if (isSmall(c)) {
                set = lettersFromTo(c, c);
            } else if (c == '.') {
                set = ALL_LETTERS;
            } else if (isCapital(c)) {
                set = meanings[c - 'A'];
                sawUndefined = sawUndefined || set == NO_MEANING;
            } else {
                return c == '[' && readBrackets();
            }
            return true;
        }

        /** Reads what stands behind the '['. */
        private boolean readBrackets() {
            boolean isOthers = skip('^');
            int listed = 0;
            for (int n = 0; n < count && isSmall(next()); n++) {
                char from = next();
                char to = from;
                at++;
                if (skip('-')) {
                    to = next();
                    at++;
                }
                if (!isSmall(to) || to < from) {
                    return false;
                }
                listed |= lettersFromTo(from, to);
            }
            set = isOthers ? ALL_LETTERS & ~listed : listed;
            return listed != 0 && skip(']');
        }

        /** Answers the quantifier, or END when there is none. */
        private char readQuantifier() {
            char c = next();
            if (c == '*' || c == '+' || c == '?') {
                at++;
                return c;
            }
            return END;
        }

        private char next() {
            return at < count ? typed[at] : END;
        }

        private boolean skip(char c) {
            if (at >= count || typed[at] != c) {
                return false;
            }
            at++;
            return true;
        }

        private static boolean beginsElement(char c) {
            return isSmall(c) || isCapital(c) || c == '.' || c == '[';
        }

        private static int lettersFromTo(char from, char to) {
            return (1 << (to - 'a' + 1)) - (1 << (from - 'a'));
        }
    }

    /**
     * The elements of BEFORE, key and AFTER in one row, the segments of the key, and the pieces (letters and digits)
     * of the replacement. What is over a limit is counted but not kept: such a rule is refused.
     */
    private static final class Rule {
        // More than the letters of any text, so that an element with '*' or '+' may always take another.
        private static final int MANY = 1000;

        private final int[] sets = new int[MOST_ELEMENTS];
        private final int[] least = new int[MOST_ELEMENTS];
        private final int[] most = new int[MOST_ELEMENTS];
        private int elementCount = 0;
        private int keyStart = 0;
        private int keyEnd = 0;
        private boolean hasQuantifier = false;
        private final int[] segmentStarts = new int[MOST_SEGMENTS];
        private final int[] segmentEnds = new int[MOST_SEGMENTS];
        private int segmentCount = 0;
        private final char[] pieces = new char[MOST_PIECES];
        private int pieceCount = 0;
        private int greatestDigit = 0;
        // How many pieces stand before the place where the cursor comes to.
        private int mark = 0;

        void clear() {
            elementCount = 0;
            keyStart = 0;
            keyEnd = 0;
            hasQuantifier = false;
            segmentCount = 0;
            pieceCount = 0;
            greatestDigit = 0;
            mark = 0;
        }

        void addElement(int set, char quantifier) {
            boolean isRepeated = quantifier == '*' || quantifier == '+';
            boolean mayMiss = quantifier == '*' || quantifier == '?';
            hasQuantifier = hasQuantifier || isRepeated || mayMiss;
            if (elementCount < MOST_ELEMENTS) {
                sets[elementCount] = set;
                least[elementCount] = mayMiss ? 0 : 1;
                most[elementCount] = isRepeated ? MANY : 1;
            }
            elementCount++;
        }

        /** The segment ends behind the latest element. */
        void addSegment(int start) {
            if (segmentCount < MOST_SEGMENTS) {
                segmentStarts[segmentCount] = start;
                segmentEnds[segmentCount] = elementCount;
            }
            segmentCount++;
        }

        void addPiece(char c) {
            if (pieceCount < MOST_PIECES) {
                pieces[pieceCount] = c;
            }
            pieceCount++;
            if (!isSmall(c)) {
                greatestDigit = Math.max(greatestDigit, c - '0');
            }
        }

        boolean isTooLarge() {
            return elementCount > MOST_ELEMENTS || segmentCount > MOST_SEGMENTS || pieceCount > MOST_PIECES;
        }

        boolean masks(Rule other) {
            int shift = other.keyStart - keyStart;
            if (hasQuantifier || other.hasQuantifier || shift < 0 || elementCount + shift > other.elementCount) {
                return false;
            }
            for (int n = 0; n < elementCount; n++) {
                if ((other.sets[n + shift] & ~sets[n]) != 0) {
                    return false;
                }
            }
            return true;
        }
    }

    /** The course of matching one rule at the cursor. */
    private static final class Match {
        // The place where each element of key and AFTER began to take, and behind the last one the place it came to.
        private final int[] begins = new int[MOST_ELEMENTS + 1];

        int run(Rule rule, Text text, boolean last) {
            if (!takeBefore(rule, text)) {
                return NO_MATCH;
            }
            begins[rule.keyStart] = text.place;
            int found = takeOnward(rule, text, rule.keyStart, rule.keyEnd, last);
            if (found != MATCH) {
                return found;
            }
            if (begins[rule.keyEnd] == text.place) {
                return NO_MATCH;
            }
            return takeOnward(rule, text, rule.keyEnd, rule.elementCount, last);
        }

        private boolean takeBefore(Rule rule, Text text) {
            int place = text.place;
            for (int n = rule.keyStart - 1; n >= 0; n--) {
                int taken = 0;
                while (taken < rule.most[n] && place > 0 && text.isIn(rule.sets[n], place - 1)) {
                    taken++;
                    place--;
                }
                if (taken < rule.least[n]) {
                    return false;
                }
            }
            return true;
        }

        /** Takes the elements from one to before another, from the place where the first of them begins. */
        private int takeOnward(Rule rule, Text text, int from, int to, boolean last) {
            int place = begins[from];
            for (int n = from; n < to; n++) {
                int taken = 0;
                while (taken < rule.most[n] && place < text.size && text.isIn(rule.sets[n], place)) {
                    taken++;
                    place++;
                }
                if (!last && place == text.size && taken < rule.most[n]) {
                    return PENDING;
                }
                if (taken < rule.least[n]) {
                    return NO_MATCH;
                }
                begins[n + 1] = place;
            }
            return MATCH;
        }

        /** After a match: the place where the segment with the number that the digit tells begins. */
        int segmentBegin(Rule rule, char digit) {
            return begins[rule.segmentStarts[digit - '1']];
        }

        int segmentWidth(Rule rule, char digit) {
            int number = digit - '1';
            return begins[rule.segmentEnds[number]] - begins[rule.segmentStarts[number]];
        }
    }

    /** The letters and the cursor. */
    private static final class Text {
        private char[] letters = new char[MOST_LETTERS];
        // The row in which the next text is put together; the two rows change parts then.
        private char[] spare = new char[MOST_LETTERS];
        private int size = 0;
        private int place = 0;

        void clear() {
            size = 0;
            place = 0;
        }

        boolean append(char c) {
            if (size >= MOST_LETTERS) {
                return false;
            }
            letters[size] = c;
            size++;
            return true;
        }

        boolean isIn(int set, int where) {
            return (set >> (letters[where] - 'a') & 1) != 0;
        }

        int sizeAfter(Rule rule, Match match) {
            int taken = match.begins[rule.keyEnd] - place;
            return size - taken + widthOf(rule, match, rule.pieceCount);
        }

        /** Only when there is room for what comes of it. */
        void replace(Rule rule, Match match) {
            System.arraycopy(letters, 0, spare, 0, place);
            int filled = place;
            for (int n = 0; n < rule.pieceCount; n++) {
                filled = putPiece(rule, match, n, filled);
            }
            int keyStop = match.begins[rule.keyEnd];
            System.arraycopy(letters, keyStop, spare, filled, size - keyStop);
            place += widthOf(rule, match, rule.mark);
            size = filled + size - keyStop;
            char[] old = letters;
            letters = spare;
            spare = old;
        }

        /** Answers the place behind what was put in. */
        private int putPiece(Rule rule, Match match, int piece, int filled) {
            char c = rule.pieces[piece];
            if (isSmall(c)) {
                spare[filled] = c;
                return filled + 1;
            }
            int width = match.segmentWidth(rule, c);
            System.arraycopy(letters, match.segmentBegin(rule, c), spare, filled, width);
            return filled + width;
        }

        /** How many letters the first pieces of the replacement come to. */
        private static int widthOf(Rule rule, Match match, int pieceCount) {
            int width = 0;
            for (int n = 0; n < pieceCount; n++) {
                char c = rule.pieces[n];
                width += isSmall(c) ? 1 : match.segmentWidth(rule, c);
            }
            return width;
        }
    }
}
