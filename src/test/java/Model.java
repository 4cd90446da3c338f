import java.util.ArrayDeque;
import java.util.ArrayList;
import java.util.BitSet;
import java.util.Deque;
import java.util.List;
import java.util.regex.Matcher;
import java.util.regex.Pattern;

/**
 * The document once more, in another way than the program: forms as a regular expression over the
 * kinds of tokens, regions as sets of single values, and what would be by trying every value.
 */
final class Model {
    private static final String[] WORDS = (
            "if and then means is over under not from until age income size count birth entry "
            + "minor senior small large early late fee rate limit grade").split(" ");
    // A sign for the kind of each word; n and d are the facts that are numbers and dates.
    private static final String SIGNS = "iatm=oo!funnnnddwwwwwwrrrr";
    private static final String CONDITION = "(?:w|n(?:=|!?o)#|d(?:=|!?o)@)";
    private static final Pattern FORM = Pattern.compile(
            "wm" + CONDITION + "(?:a" + CONDITION + ")*|"
            + "(?:i" + CONDITION + "(?:a" + CONDITION + ")*t)?r=#(?:f@)?(?:u@)?");
    private static final int[] LOWEST = {-9999, -9999, -9999, -9999, 0, 0, 0};
    private static final int[] HIGHEST = {9999, 9999, 9999, 9999, 73048, 73048, 73048};

    /** sign: '#' for a number, '@' for a date, else the word's. */
    private record Token(char sign, int value) {
        String text() {
            if (sign == '#') {
                return Integer.toString(value);
            }
            if (sign == '@') {
                return java.time.LocalDate.of(1900, 1, 1).plusDays(value).toString();
            }
            return WORDS[value];
        }
    }

    private static final class Told {
        final List<Token> tokens;
        final BitSet[] region = new BitSet[7];
        int uses;

        Told(List<Token> tokens) {
            this.tokens = List.copyOf(tokens);
            for (int i = 0; i < 7; i++) {
                region[i] = new BitSet();
                region[i].set(0, HIGHEST[i] - LOWEST[i] + 1);
            }
        }

        boolean isDefinition() {
            return tokens.get(0).sign == 'w';
        }

        int about() {
            if (isDefinition()) {
                return tokens.get(0).value - 16 + 10;
            }
            for (Token token : tokens) {
                if (token.sign == 'r') {
                    return token.value - 22;
                }
            }
            throw new IllegalStateException();
        }

        int gives() {
            int last = tokens.size() - 1;
            while (tokens.get(last).sign != '#') {
                last--;
            }
            return tokens.get(last).value;
        }

        boolean has(int fact, int value) {
            return region[fact].get(value - LOWEST[fact]);
        }

        boolean hasAll(int[] facts) {
            for (int i = 0; i < 7; i++) {
                if (!has(i, facts[i])) {
                    return false;
                }
            }
            return true;
        }

        boolean isEmpty() {
            for (BitSet values : region) {
                if (values.isEmpty()) {
                    return true;
                }
            }
            return false;
        }
    }

    private record Snapshot(List<Told> book, int[] facts, List<Token> present) {
    }

    private List<Told> book = new ArrayList<>();
    private int[] facts = {0, 0, 0, 0, 0, 0, 36524};
    private List<Token> present = new ArrayList<>();
    private final Deque<Snapshot> recorded = new ArrayDeque<>();

    // ---- the present sentence

    int word(int code) {
        if (code < 0 || code > 25) {
            return Checks.BAD_VALUE;
        }
        return append(new Token(SIGNS.charAt(code), code));
    }

    int number(int value) {
        return Math.abs((long) value) > 9999 ? Checks.BAD_VALUE : append(new Token('#', value));
    }

    int date(int year, int month, int day) {
        int number = dayNumber(year, month, day);
        return number < 0 ? number : append(new Token('@', number));
    }

    private int append(Token token) {
        if (present.size() == 24) {
            return Checks.FULL;
        }
        present.add(token);
        return present.size();
    }

    int back() {
        if (present.isEmpty()) {
            return Checks.NOT_POSSIBLE;
        }
        present.remove(present.size() - 1);
        return present.size();
    }

    int clear() {
        int count = present.size();
        present.clear();
        return count;
    }

    int syntaxError() {
        StringBuilder signs = new StringBuilder();
        for (int i = 0; i < present.size(); i++) {
            signs.append(present.get(i).sign);
            Matcher matcher = FORM.matcher(signs);
            if (!matcher.matches() && !matcher.hitEnd()) {
                return i;
            }
        }
        return FORM.matcher(signs).matches() ? Checks.NONE : present.size();
    }

    // ---- the book

    int tell() {
        if (syntaxError() != Checks.NONE) {
            return Checks.NOT_POSSIBLE;
        }
        Told told = read(present);
        if (told == null || told.isEmpty() || told.isDefinition() && definition(told.about() - 10) >= 0) {
            return Checks.NOT_POSSIBLE;
        }
        if (book.size() == 16) {
            return Checks.FULL;
        }
        remember();
        book.add(told);
        present.clear();
        return book.size() - 1;
    }

    /** null if a word has no definition. */
    private Told read(List<Token> tokens) {
        Told told = new Told(tokens);
        int at = told.isDefinition() ? 2 : 0;
        while (at < tokens.size()) {
            Token token = tokens.get(at);
            if (token.sign == 'w') {
                int defined = definition(token.value - 16);
                if (defined < 0) {
                    return null;
                }
                told.uses |= 1 << (token.value - 16);
                for (int i = 0; i < 7; i++) {
                    told.region[i].and(book.get(defined).region[i]);
                }
            } else if (token.sign == 'n' || token.sign == 'd') {
                boolean not = tokens.get(at + 1).sign == '!';
                int comparison = tokens.get(not ? at + 2 : at + 1).value;
                filter(told, token.value - 10, comparison, not, tokens.get(not ? at + 3 : at + 2).value);
            } else if (token.sign == 'f') {
                filter(told, 6, 6, true, tokens.get(at + 1).value);
            } else if (token.sign == 'u') {
                filter(told, 6, 5, true, tokens.get(at + 1).value);
            }
            at++;
        }
        return told;
    }

    private static void filter(Told told, int fact, int comparison, boolean not, int value) {
        for (int v = LOWEST[fact]; v <= HIGHEST[fact]; v++) {
            boolean holds = comparison == 4 ? v == value : comparison == 5 ? v > value : v < value;
            if (holds == not) {
                told.region[fact].clear(v - LOWEST[fact]);
            }
        }
    }

    int retract(int sentence) {
        if (sentence < 0 || sentence >= book.size()) {
            return Checks.NO_SUCH_SENTENCE;
        }
        Told gone = book.get(sentence);
        for (Told told : book) {
            if (gone.isDefinition() && told != gone && (told.uses & 1 << (gone.about() - 10)) != 0) {
                return Checks.NOT_POSSIBLE;
            }
        }
        remember();
        book.remove(sentence);
        return book.size();
    }

    int setFact(int fact, int value) {
        if (fact < 0 || fact > 6 || value < LOWEST[fact] || value > HIGHEST[fact]) {
            return Checks.BAD_VALUE;
        }
        remember();
        int previous = facts[fact];
        facts[fact] = value;
        return previous;
    }

    private void remember() {
        recorded.addLast(new Snapshot(List.copyOf(book), facts.clone(), List.copyOf(present)));
        if (recorded.size() > 8) {
            recorded.removeFirst();
        }
    }

    int undo() {
        if (recorded.isEmpty()) {
            return Checks.NONE;
        }
        Snapshot latest = recorded.removeLast();
        book = new ArrayList<>(latest.book);
        facts = latest.facts.clone();
        present = new ArrayList<>(latest.present);
        return recorded.size();
    }

    // ---- what there is

    int sentences() {
        return book.size();
    }

    private boolean isThere(int sentence) {
        return sentence >= 0 && sentence < book.size();
    }

    int about(int sentence) {
        return isThere(sentence) ? book.get(sentence).about() : Checks.NO_SUCH_SENTENCE;
    }

    int gives(int sentence) {
        if (!isThere(sentence)) {
            return Checks.NO_SUCH_SENTENCE;
        }
        return book.get(sentence).isDefinition() ? Checks.NONE : book.get(sentence).gives();
    }

    int least(int sentence, int fact) {
        if (!isThere(sentence)) {
            return Checks.NO_SUCH_SENTENCE;
        }
        return fact < 0 || fact > 6 ? Checks.BAD_VALUE : LOWEST[fact] + book.get(sentence).region[fact].nextSetBit(0);
    }

    int greatest(int sentence, int fact) {
        if (!isThere(sentence)) {
            return Checks.NO_SUCH_SENTENCE;
        }
        return fact < 0 || fact > 6 ? Checks.BAD_VALUE : LOWEST[fact] + book.get(sentence).region[fact].length() - 1;
    }

    int sharpness(int sentence) {
        if (!isThere(sentence)) {
            return Checks.NO_SUCH_SENTENCE;
        }
        int count = 0;
        for (int i = 0; i < 7; i++) {
            if (book.get(sentence).region[i].cardinality() < HIGHEST[i] - LOWEST[i] + 1) {
                count++;
            }
        }
        return count;
    }

    int uses(int sentence) {
        return isThere(sentence) ? book.get(sentence).uses : Checks.NO_SUCH_SENTENCE;
    }

    int fact(int fact) {
        return fact < 0 || fact > 6 ? Checks.BAD_VALUE : facts[fact];
    }

    int definition(int word) {
        if (word < 0 || word > 5) {
            return Checks.BAD_VALUE;
        }
        for (int i = 0; i < book.size(); i++) {
            if (book.get(i).about() == 10 + word) {
                return i;
            }
        }
        return Checks.NONE;
    }

    private String text(int sentence) {
        List<String> texts = new ArrayList<>();
        for (Token token : book.get(sentence).tokens) {
            texts.add(token.text());
        }
        return String.join(" ", texts) + ".";
    }

    int length(int sentence) {
        return isThere(sentence) ? text(sentence).length() : Checks.NO_SUCH_SENTENCE;
    }

    int character(int sentence, int index) {
        if (!isThere(sentence)) {
            return Checks.NO_SUCH_SENTENCE;
        }
        String text = text(sentence);
        return index < 0 || index >= text.length() ? Checks.BAD_VALUE : text.charAt(index);
    }

    // ---- dates

    int dayNumber(int year, int month, int day) {
        try {
            java.time.LocalDate date = java.time.LocalDate.of(year, month, day);
            if (year < 1900 || year > 2099) {
                return Checks.BAD_VALUE;
            }
            return (int) (date.toEpochDay() - java.time.LocalDate.of(1900, 1, 1).toEpochDay());
        } catch (java.time.DateTimeException wrong) {
            return Checks.BAD_VALUE;
        }
    }

    int dateOf(int number) {
        if (number < 0 || number > 73048) {
            return Checks.BAD_VALUE;
        }
        java.time.LocalDate date = java.time.LocalDate.of(1900, 1, 1).plusDays(number);
        return 10000 * date.getYear() + 100 * date.getMonthValue() + date.getDayOfMonth();
    }

    // ---- answers

    private static boolean isWithin(Told a, Told b) {
        for (int i = 0; i < 7; i++) {
            BitSet rest = (BitSet) a.region[i].clone();
            rest.andNot(b.region[i]);
            if (!rest.isEmpty()) {
                return false;
            }
        }
        return true;
    }

    private static boolean isStrictlyWithin(Told a, Told b) {
        return isWithin(a, b) && !isWithin(b, a);
    }

    private static List<Told> applying(List<Told> rules, int result, int[] values) {
        List<Told> applying = new ArrayList<>();
        for (Told told : rules) {
            if (told.about() == result && told.hasAll(values)) {
                applying.add(told);
            }
        }
        return applying;
    }

    private static List<Told> reasonsAmong(List<Told> applying) {
        List<Told> reasons = new ArrayList<>(applying);
        reasons.removeIf(rule -> applying.stream().anyMatch(other -> isStrictlyWithin(other, rule)));
        return reasons;
    }

    private static int answerOf(List<Told> reasons) {
        long numbers = reasons.stream().mapToInt(Told::gives).distinct().count();
        return numbers == 0 ? Checks.NONE : numbers > 1 ? Checks.REFUSED : reasons.get(0).gives();
    }

    private static int answerIn(List<Told> rules, int result, int[] values) {
        return answerOf(reasonsAmong(applying(rules, result, values)));
    }

    private static boolean isResult(int result) {
        return result >= 0 && result <= 3;
    }

    int answer(int result) {
        return isResult(result) ? answerIn(book, result, facts) : Checks.BAD_VALUE;
    }

    int reasons(int result) {
        return isResult(result) ? reasonsAmong(applying(book, result, facts)).size() : Checks.BAD_VALUE;
    }

    int reason(int result, int index) {
        if (!isResult(result) || index < 0) {
            return Checks.BAD_VALUE;
        }
        List<Integer> numbers = new ArrayList<>();
        for (Told told : reasonsAmong(applying(book, result, facts))) {
            numbers.add(book.indexOf(told));
        }
        numbers.sort((a, b) -> sharpness(a) != sharpness(b) ? sharpness(b) - sharpness(a) : a - b);
        return index < numbers.size() ? numbers.get(index) : Checks.NONE;
    }

    int overridden(int result) {
        if (!isResult(result)) {
            return Checks.BAD_VALUE;
        }
        return applying(book, result, facts).size() - reasons(result);
    }

    int holds(int word) {
        int definition = definition(word);
        if (definition < 0) {
            return definition;
        }
        return book.get(definition).hasAll(facts) ? 1 : 0;
    }

    int compare(int a, int b) {
        if (!isThere(a) || !isThere(b)) {
            return Checks.NO_SUCH_SENTENCE;
        }
        boolean within = isWithin(book.get(a), book.get(b));
        boolean around = isWithin(book.get(b), book.get(a));
        if (within || around) {
            return within && around ? 0 : within ? 1 : 2;
        }
        return common(book.get(a), book.get(b)).isEmpty() ? 4 : 3;
    }

    private static Told common(Told a, Told b) {
        Told common = new Told(List.of());
        for (int i = 0; i < 7; i++) {
            common.region[i].and(a.region[i]);
            common.region[i].and(b.region[i]);
        }
        return common;
    }

    int contradiction(int index) {
        if (index < 0) {
            return Checks.BAD_VALUE;
        }
        List<Integer> pairs = new ArrayList<>();
        for (int a = 0; a < book.size(); a++) {
            for (int b = a + 1; b < book.size(); b++) {
                if (contradict(book.get(a), book.get(b))) {
                    pairs.add(100 * a + b);
                }
            }
        }
        return index < pairs.size() ? pairs.get(index) : Checks.NONE;
    }

    private boolean contradict(Told a, Told b) {
        if (a.isDefinition() || b.isDefinition() || a.about() != b.about() || a.gives() == b.gives()
                || isStrictlyWithin(a, b) || isStrictlyWithin(b, a)) {
            return false;
        }
        Told common = common(a, b);
        if (common.isEmpty()) {
            return false;
        }
        return book.stream().noneMatch(rule -> rule.about() == a.about() && isWithin(rule, common)
                && isWithin(common, rule));
    }

    // ---- what would be

    private boolean isFactValue(int fact, int value) {
        return fact >= 0 && fact <= 6 && value >= LOWEST[fact] && value <= HIGHEST[fact];
    }

    int answerIf(int result, int fact, int value) {
        if (!isResult(result) || !isFactValue(fact, value)) {
            return Checks.BAD_VALUE;
        }
        int[] values = facts.clone();
        values[fact] = value;
        return answerIn(book, result, values);
    }

    /** The answers for every value of a fact, from the lowest on. */
    private int[] answers(int result, int fact) {
        int[] values = facts.clone();
        int[] answers = new int[HIGHEST[fact] - LOWEST[fact] + 1];
        List<Told> before = null;
        for (int i = 0; i < answers.length; i++) {
            values[fact] = LOWEST[fact] + i;
            List<Told> applying = applying(book, result, values);
            // The same rules apply as with the value before: no need to compare their regions again.
            answers[i] = applying.equals(before) ? answers[i - 1] : answerOf(reasonsAmong(applying));
            before = applying;
        }
        return answers;
    }

    int nextChange(int result, int fact) {
        if (!isResult(result) || fact < 0 || fact > 6) {
            return Checks.BAD_VALUE;
        }
        int[] answers = answers(result, fact);
        for (int value = facts[fact] + 1; value <= HIGHEST[fact]; value++) {
            if (answers[value - LOWEST[fact]] != answers[facts[fact] - LOWEST[fact]]) {
                return value;
            }
        }
        return Checks.NONE;
    }

    int leastFor(int result, int fact, int wanted) {
        if (!isResult(result) || fact < 0 || fact > 6 || Math.abs((long) wanted) > 9999) {
            return Checks.BAD_VALUE;
        }
        int[] answers = answers(result, fact);
        for (int i = 0; i < answers.length; i++) {
            if (answers[i] == wanted) {
                return LOWEST[fact] + i;
            }
        }
        return Checks.NONE;
    }

    int matters(int sentence) {
        if (!isThere(sentence)) {
            return Checks.NO_SUCH_SENTENCE;
        }
        if (book.get(sentence).isDefinition()) {
            return 0;
        }
        List<Told> others = new ArrayList<>(book);
        others.remove(sentence);
        int count = 0;
        for (int result = 0; result < 4; result++) {
            if (answerIn(book, result, facts) != answerIn(others, result, facts)) {
                count++;
            }
        }
        return count;
    }
}
