import java.util.ArrayList;
import java.util.HashMap;
import java.util.List;
import java.util.Map;
import java.util.regex.Matcher;
import java.util.regex.Pattern;

/** The document once more, slowly, on texts and regular expressions, to be compared with the program. */
final class Model {
    private static final String ALPHABET = "abcdefghijklmnopqrstuvwxyz";
    private static final String ELEMENT = "(?:[a-zA-Z.]|\\[\\^?(?:[a-z](?:-[a-z])?)+\\])";
    private static final String ITEM = "(?:" + ELEMENT + "[*+?]?)";
    private static final Pattern DEFINITION = Pattern.compile("([A-Z])=(" + ELEMENT + ")");
    private static final Pattern RULE = Pattern.compile("(?:(" + ITEM + "*)\\{)?((?:" + ITEM + "|\\(" + ITEM + "+\\))+)(?:\\}("
        + ITEM + "*))?>([a-z1-3]*\\|?[a-z1-3]*)");
    private static final Pattern PART = Pattern.compile("(" + ELEMENT + ")([*+?]?)|[()]");
    private static final Pattern RANGE = Pattern.compile("([a-z])-([a-z])");

    private record Element(String letters, String quantifier) {
        int least() {
            return quantifier.equals("") || quantifier.equals("+") ? 1 : 0;
        }

        boolean mayTakeAfter(int taken) {
            return quantifier.equals("*") || quantifier.equals("+") || taken == 0;
        }

        /** How many of the first letters it takes. */
        int takes(String text) {
            int taken = 0;
            for (char c : text.toCharArray()) {
                if (!mayTakeAfter(taken) || letters.indexOf(c) < 0) {
                    return taken;
                }
                taken++;
            }
            return taken;
        }
    }

    private static final class Rule {
        final List<Element> before = new ArrayList<>();
        final List<Element> key = new ArrayList<>();
        final List<Element> after = new ArrayList<>();
        final List<int[]> segments = new ArrayList<>();
        String replacement = "";

        List<Element> all() {
            List<Element> all = new ArrayList<>(before);
            all.addAll(key);
            all.addAll(after);
            return all;
        }
    }

    private final StringBuilder statement = new StringBuilder();
    private final Map<String, String> definitions = new HashMap<>();
    private final List<Rule> rules = new ArrayList<>();
    private String text = "";
    private int cursor = 0;
    private int applied = 0;
    private int latest = -1;
    private boolean stuck = false;

    // What each element of the key took in the latest matching.
    private final List<String> took = new ArrayList<>();

    int code(char c) {
        if (c < 32 || c > 126) {
            return -6;
        }
        if (c == ';') {
            String words = statement.toString();
            statement.setLength(0);
            return answer(words);
        }
        if (c != ' ') {
            if (statement.length() == 48) {
                return -6;
            }
            statement.append(c);
        }
        return 0;
    }

    private int answer(String words) {
        Matcher definition = DEFINITION.matcher(words);
        Matcher rule = RULE.matcher(words);
        if (!definition.matches() && !rule.matches() || hasWrongRange(words)) {
            return -1;
        }
        if (definition.matches()) {
            String letters = lettersOf(definition.group(2));
            if (letters == null) {
                return -2;
            }
            definitions.put(definition.group(1), letters);
            return 1;
        }
        return answerToRule(rule);
    }

    private int answerToRule(Matcher words) {
        Rule rule = new Rule();
        boolean known = read(words.group(1), rule.before, null)
            & read(words.group(2), rule.key, rule.segments)
            & read(words.group(3), rule.after, null);
        rule.replacement = words.group(4);
        if (!known) {
            return -2;
        }
        for (int digit = 1; digit <= 3; digit++) {
            if (rule.replacement.contains("" + digit) && rule.segments.size() < digit) {
                return -3;
            }
        }
        if (rules.size() == 8 || rule.all().size() > 12 || rule.segments.size() > 3
                || rule.replacement.replace("|", "").length() > 12) {
            return -4;
        }
        for (Rule other : rules) {
            if (masks(other, rule)) {
                return -5;
            }
        }
        rules.add(rule);
        return 10 + rules.size() - 1;
    }

    private static boolean hasWrongRange(String words) {
        Matcher range = RANGE.matcher(words);
        while (range.find()) {
            if (range.group(1).compareTo(range.group(2)) > 0) {
                return true;
            }
        }
        return false;
    }

    /** Answers whether all capital letters are defined. */
    private boolean read(String words, List<Element> into, List<int[]> segments) {
        boolean known = true;
        Matcher part = PART.matcher(words == null ? "" : words);
        int start = 0;
        while (part.find()) {
            if (part.group().equals("(")) {
                start = into.size();
            } else if (part.group().equals(")")) {
                segments.add(new int[] {start, into.size()});
            } else {
                String letters = lettersOf(part.group(1));
                known = known && letters != null;
                into.add(new Element(letters, part.group(2)));
            }
        }
        return known;
    }

    private String lettersOf(String element) {
        if (element.matches("[A-Z]")) {
            return definitions.get(element);
        }
        // The element's own words are a regular expression for the letters it stands for.
        StringBuilder letters = new StringBuilder();
        for (char c : ALPHABET.toCharArray()) {
            if (("" + c).matches(element)) {
                letters.append(c);
            }
        }
        return letters.toString();
    }

    private static boolean masks(Rule m, Rule n) {
        for (Rule rule : List.of(m, n)) {
            for (Element element : rule.all()) {
                if (!element.quantifier.isEmpty()) {
                    return false;
                }
            }
        }
        int behindM = m.key.size() + m.after.size();
        int behindN = n.key.size() + n.after.size();
        if (m.before.size() > n.before.size() || behindM > behindN) {
            return false;
        }
        for (int place = -m.before.size(); place < behindM; place++) {
            String wide = m.all().get(m.before.size() + place).letters;
            String narrow = n.all().get(n.before.size() + place).letters;
            for (char c : narrow.toCharArray()) {
                if (wide.indexOf(c) < 0) {
                    return false;
                }
            }
        }
        return true;
    }

    int rules() {
        return rules.size();
    }

    void forget() {
        rules.clear();
        definitions.clear();
        statement.setLength(0);
        restart();
    }

    void restart() {
        text = "";
        cursor = 0;
        applied = 0;
        latest = -1;
        stuck = false;
    }

    boolean write(char c) {
        if (ALPHABET.indexOf(c) < 0 || text.length() == 60 || stuck) {
            return false;
        }
        text += c;
        return true;
    }

    int rewrite(boolean last) {
        int before = applied;
        while (!stuck && cursor < text.length()) {
            int number = 0;
            int found = 0;
            while (number < rules.size() && found == 0) {
                found = probe(number, last);
                number++;
            }
            if (found == 2) {
                break;
            } else if (found == 1) {
                apply(number - 1);
            } else {
                cursor++;
            }
        }
        return applied - before;
    }

    private void apply(int number) {
        Rule rule = rules.get(number);
        String words = rule.replacement.contains("|") ? rule.replacement : rule.replacement + "|";
        for (int digit = 1; digit <= rule.segments.size(); digit++) {
            int[] segment = rule.segments.get(digit - 1);
            words = words.replace("" + digit, String.join("", took.subList(segment[0], segment[1])));
        }
        int keyLength = String.join("", took).length();
        String next = text.substring(0, cursor) + words.replace("|", "") + text.substring(cursor + keyLength);
        if (next.length() > 60 || applied == 100) {
            stuck = true;
            return;
        }
        text = next;
        cursor += words.indexOf('|');
        applied++;
        latest = number;
    }

    int probe(int number, boolean last) {
        if (number < 0 || number >= rules.size()) {
            return -1;
        }
        Rule rule = rules.get(number);
        String back = new StringBuilder(text.substring(0, cursor)).reverse().toString();
        for (int n = rule.before.size() - 1; n >= 0; n--) {
            int taken = rule.before.get(n).takes(back);
            if (taken < rule.before.get(n).least()) {
                return 0;
            }
            back = back.substring(taken);
        }
        took.clear();
        String rest = text.substring(cursor);
        for (int n = 0; n < rule.key.size() + rule.after.size(); n++) {
            boolean inKey = n < rule.key.size();
            if (!inKey && String.join("", took).isEmpty()) {
                return 0;
            }
            Element element = inKey ? rule.key.get(n) : rule.after.get(n - rule.key.size());
            int taken = element.takes(rest);
            if (!last && taken == rest.length() && element.mayTakeAfter(taken)) {
                return 2;
            }
            if (taken < element.least()) {
                return 0;
            }
            if (inKey) {
                took.add(rest.substring(0, taken));
            }
            rest = rest.substring(taken);
        }
        return String.join("", took).isEmpty() ? 0 : 1;
    }

    int length() {
        return text.length();
    }

    int letter(int place) {
        return place < 0 || place >= text.length() ? 0 : text.charAt(place);
    }

    int cursor() {
        return cursor;
    }

    int applied() {
        return applied;
    }

    int latest() {
        return latest;
    }

    boolean stuck() {
        return stuck;
    }
}
