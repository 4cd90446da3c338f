/**
 * A book of rules in controlled sentences: sentences are put together from words, numbers and
 * dates, read, and kept; they define words or give values to results.
 */
public final class SentenceRules {
    public static final int NO_SUCH_SENTENCE = -100001;
    public static final int BAD_VALUE = -100002;
    public static final int NOT_POSSIBLE = -100003;
    public static final int FULL = -100004;
    public static final int NONE = -100005;
    public static final int REFUSED = -100006;

    private static final int MOST_SENTENCES = 16;
    private static final int MOST_TOKENS = 24;
    private static final int MOST_RECORDED = 8;
    // An answer can change only where a rule's region begins or has just ended.
    private static final int MOST_BORDERS = 2 * MOST_SENTENCES;
    private static final int NO_SENTENCE = -1;

    private static final int FACTS = 7;
    private static final int BIRTH_FACT = 4;
    private static final int TODAY = 6;
    private static final int RESULTS = 4;
    private static final int DEFINABLE = 6;

    private static final int LEAST_NUMBER = -9999;
    private static final int GREATEST_NUMBER = 9999;
    private static final int FIRST_YEAR = 1900;
    private static final int LAST_YEAR = 2099;
    private static final int LAST_DAY = 73048;
    private static final int FIRST_TODAY = 36524;
    private static final int[] DAYS_OF_MONTHS = {31, 28, 31, 30, 31, 30, 31, 31, 30, 31, 30, 31};

    // The kinds of tokens.
    private static final int WORD = 0;
    private static final int NUMBER = 1;
    private static final int DATE = 2;

    // The codes of the words.
    private static final int IF = 0;
    private static final int AND = 1;
    private static final int THEN = 2;
    private static final int MEANS = 3;
    private static final int IS = 4;
    private static final int OVER = 5;
    private static final int UNDER = 6;
    private static final int NOT = 7;
    private static final int FROM = 8;
    private static final int UNTIL = 9;
    private static final int AGE = 10;
    private static final int ENTRY = 15;
    private static final int MINOR = 16;
    private static final int LATE = 21;
    private static final int FEE = 22;
    private static final int GRADE = 25;
    private static final int NO_WORD = -1;

    // The places in a sentence at which a reader can stand, each named for what comes next there.
    private static final int NOWHERE = -1;
    private static final int AT_START = 0;
    private static final int AT_MEANS = 1;
    private static final int AT_CONDITION = 2;
    private static final int AT_COMPARISON = 3;
    private static final int AT_OVER_OR_UNDER = 4;
    private static final int AT_VALUE = 5;
    private static final int AT_AND = 6;
    private static final int AT_RESULT = 7;
    private static final int AT_IS = 8;
    private static final int AT_NUMBER = 9;
    private static final int AT_FROM = 10;
    private static final int AT_FROM_DATE = 11;
    private static final int AT_UNTIL = 12;
    private static final int AT_UNTIL_DATE = 13;
    private static final int AT_END = 14;

    // What a sentence is about: 10 + the word that it defines, or the result.
    private static final int FIRST_DEFINED = 10;

    private final State now = new State();
    private final State[] recorded = new State[MOST_RECORDED];
    private int recordedCount;

    // These are made once and used again by every call, so that calls make as little as possible.
    private final Reader reader = new Reader();
    private final int[] supposed = new int[FACTS];
    private final int[] reasonRow = new int[MOST_SENTENCES];
    private final StringBuilder builder = new StringBuilder();

    public SentenceRules() {
    }

    // ---- the present sentence

    public int word(int code) {
        if (code < IF || code > GRADE) {
            return BAD_VALUE;
        }
        return append(WORD, code);
    }

    public int number(int value) {
        if (!isNumber(value)) {
            return BAD_VALUE;
        }
        return append(NUMBER, value);
    }

    public int date(int year, int month, int day) {
        if (!isDate(year, month, day)) {
            return BAD_VALUE;
        }
        return append(DATE, daysBefore(year, month) + day - 1);
    }

    private int append(int kind, int value) {
        return now.present.append(kind, value) ? now.present.count : FULL;
    }

    public int back() {
        return now.present.removeLast() ? now.present.count : NOT_POSSIBLE;
    }

    public int clear() {
        int count = now.present.count;
        now.present.removeAll();
        return count;
    }

    public int syntaxError() {
        return reader.firstError(now.present);
    }

    // ---- the book

    public int tell() {
        if (!isTellable()) {
            return NOT_POSSIBLE;
        }
        if (now.sentenceCount >= MOST_SENTENCES) {
            return FULL;
        }
        recordNow();
        now.addSentence(new Sentence(textOf(now.present), reader));
        now.present.removeAll();
        return now.sentenceCount - 1;
    }

    /** Leaves what the present sentence says, with its region narrowed by its words, in the reader. */
    private boolean isTellable() {
        if (reader.firstError(now.present) != NONE) {
            return false;
        }
        if (reader.about >= FIRST_DEFINED && now.definitionOf(reader.about - FIRST_DEFINED) != NO_SENTENCE) {
            return false;
        }
        for (int defined = 0; defined < DEFINABLE; defined++) {
            if (isBitSet(reader.used, defined) && !narrowByDefinition(defined)) {
                return false;
            }
        }
        return !reader.region.isEmpty();
    }

    private boolean narrowByDefinition(int defined) {
        Sentence meaning = now.sentenceAt(now.definitionOf(defined));
        if (meaning == null) {
            return false;
        }
        reader.region.narrowTo(meaning.region);
        return true;
    }

    public int retract(int sentence) {
        Sentence told = now.sentenceAt(sentence);
        if (told == null) {
            return NO_SUCH_SENTENCE;
        }
        if (told.isDefinition() && now.isUsed(told.about - FIRST_DEFINED)) {
            return NOT_POSSIBLE;
        }
        recordNow();
        now.removeSentence(sentence);
        return now.sentenceCount;
    }

    public int setFact(int fact, int value) {
        if (!isFact(fact) || !isValueOf(fact, value)) {
            return BAD_VALUE;
        }
        recordNow();
        int previous = now.facts[fact];
        now.facts[fact] = value;
        return previous;
    }

    private void recordNow() {
        if (recordedCount == MOST_RECORDED) {
            dropOldest();
        }
        State record = recorded[recordedCount];
        if (record == null) {
            record = new State();
            recorded[recordedCount] = record;
        }
        record.copyFrom(now);
        recordedCount++;
    }

    /** Moves the oldest state behind the others, where the next record is written over it. */
    private void dropOldest() {
        State oldest = recorded[0];
        for (int i = 1; i < recorded.length; i++) {
            recorded[i - 1] = recorded[i];
        }
        recorded[recorded.length - 1] = oldest;
        recordedCount--;
    }

    public int undo() {
        if (recordedCount == 0) {
            return NONE;
        }
        State latest = recorded[recordedCount - 1];
        if (latest == null) {
            return NONE;
        }
        now.copyFrom(latest);
        recordedCount--;
        return recordedCount;
    }

    // ---- what there is

    public int sentences() {
        return now.sentenceCount;
    }

    public int about(int sentence) {
        Sentence told = now.sentenceAt(sentence);
        return told == null ? NO_SUCH_SENTENCE : told.about;
    }

    public int gives(int sentence) {
        Sentence told = now.sentenceAt(sentence);
        if (told == null) {
            return NO_SUCH_SENTENCE;
        }
        return told.isDefinition() ? NONE : told.given;
    }

    public int least(int sentence, int fact) {
        Sentence told = now.sentenceAt(sentence);
        if (told == null) {
            return NO_SUCH_SENTENCE;
        }
        return isFact(fact) ? told.region.lows[fact] : BAD_VALUE;
    }

    public int greatest(int sentence, int fact) {
        Sentence told = now.sentenceAt(sentence);
        if (told == null) {
            return NO_SUCH_SENTENCE;
        }
        return isFact(fact) ? told.region.highs[fact] : BAD_VALUE;
    }

    public int sharpness(int sentence) {
        Sentence told = now.sentenceAt(sentence);
        return told == null ? NO_SUCH_SENTENCE : told.region.limitedFacts();
    }

    public int uses(int sentence) {
        Sentence told = now.sentenceAt(sentence);
        return told == null ? NO_SUCH_SENTENCE : told.used;
    }

    public int fact(int fact) {
        return isFact(fact) ? now.facts[fact] : BAD_VALUE;
    }

    public int definition(int word) {
        if (!isDefinable(word)) {
            return BAD_VALUE;
        }
        int number = now.definitionOf(word);
        return number == NO_SENTENCE ? NONE : number;
    }

    public int length(int sentence) {
        Sentence told = now.sentenceAt(sentence);
        return told == null ? NO_SUCH_SENTENCE : told.text.length();
    }

    public int character(int sentence, int index) {
        Sentence told = now.sentenceAt(sentence);
        if (told == null) {
            return NO_SUCH_SENTENCE;
        }
        if (index < 0 || index >= told.text.length()) {
            return BAD_VALUE;
        }
        return told.text.charAt(index);
    }

    private String textOf(Tokens tokens) {
        builder.setLength(0);
        for (int i = 0; i < tokens.count; i++) {
            if (i > 0) {
                builder.append(' ');
            }
            writeToken(tokens.kinds[i], tokens.values[i]);
        }
        builder.append('.');
        return builder.toString();
    }

    private void writeToken(int kind, int value) {
        switch (kind) {
            case WORD:
                builder.append(spelling(value));
                break;
            case NUMBER:
                builder.append(value);
                break;
            default:
                writeDate(dateCode(value));
                break;
        }
    }

    private void writeDate(int code) {
        builder.append(code / 10000).append('-');
        writeTwoDigits(code / 100 % 100);
        builder.append('-');
        writeTwoDigits(code % 100);
    }

    private void writeTwoDigits(int value) {
        if (value < 10) {
            builder.append('0');
        }
        builder.append(value);
    }

    private static String spelling(int code) {
        switch (code) {
            case 0: return "if";
            case 1: return "and";
            case 2: return "then";
            case 3: return "means";
            case 4: return "is";
            case 5: return "over";
            case 6: return "under";
            case 7: return "not";
            case 8: return "from";
            case 9: return "until";
            case 10: return "age";
            case 11: return "income";
            case 12: return "size";
            case 13: return "count";
            case 14: return "birth";
            case 15: return "entry";
            case 16: return "minor";
            case 17: return "senior";
            case 18: return "small";
            case 19: return "large";
            case 20: return "early";
            case 21: return "late";
            case 22: return "fee";
            case 23: return "rate";
            case 24: return "limit";
            case 25: return "grade";
            default: return "";
        }
    }

    // ---- dates

    public int dayNumber(int year, int month, int day) {
        if (!isDate(year, month, day)) {
            return BAD_VALUE;
        }
        return daysBefore(year, month) + day - 1;
    }

    public int dateOf(int number) {
        if (number < 0 || number > LAST_DAY) {
            return BAD_VALUE;
        }
        return dateCode(number);
    }

    private static boolean isDate(int year, int month, int day) {
        return year >= FIRST_YEAR && year <= LAST_YEAR && month >= 1 && month <= 12
                && day >= 1 && day <= daysOfMonth(year, month);
    }

    private static boolean isLeapYear(int year) {
        return year % 4 == 0 && year % 100 != 0 || year % 400 == 0;
    }

    private static int daysOfYear(int year) {
        return isLeapYear(year) ? 366 : 365;
    }

    private static int daysOfMonth(int year, int month) {
        if (month < 1 || month > DAYS_OF_MONTHS.length) {
            return 0;
        }
        int days = DAYS_OF_MONTHS[month - 1];
        return month == 2 && isLeapYear(year) ? days + 1 : days;
    }

    private static int daysBefore(int year, int month) {
        int days = 0;
        for (int earlier = FIRST_YEAR; earlier < year && earlier <= LAST_YEAR; earlier++) {
            days += daysOfYear(earlier);
        }
        for (int earlier = 1; earlier < month && earlier <= 12; earlier++) {
            days += daysOfMonth(year, earlier);
        }
        return days;
    }

    private static int dateCode(int number) {
        int left = number;
        int year = FIRST_YEAR;
        while (year < LAST_YEAR && left >= daysOfYear(year)) {
            left -= daysOfYear(year);
            year++;
        }
        int month = 1;
        while (month < 12 && left >= daysOfMonth(year, month)) {
            left -= daysOfMonth(year, month);
            month++;
        }
        return 10000 * year + 100 * month + left + 1;
    }

    // ---- answers

    public int answer(int result) {
        if (!isResult(result)) {
            return BAD_VALUE;
        }
        return now.answerFor(result, now.facts, NO_SENTENCE);
    }

    public int reasons(int result) {
        if (!isResult(result)) {
            return BAD_VALUE;
        }
        return collectReasons(result);
    }

    public int reason(int result, int index) {
        if (!isResult(result) || index < 0) {
            return BAD_VALUE;
        }
        int count = collectReasons(result);
        for (int i = 0; i < count; i++) {
            if (rankOfReason(reasonRow[i], count) == index) {
                return reasonRow[i];
            }
        }
        return NONE;
    }

    /** Puts the numbers of the reasons into their row, the lowest first, and returns how many there are. */
    private int collectReasons(int result) {
        int count = 0;
        for (int i = 0; i < now.sentenceCount && count < reasonRow.length; i++) {
            if (now.isReason(i, result, now.facts, NO_SENTENCE)) {
                reasonRow[count] = i;
                count++;
            }
        }
        return count;
    }

    private int rankOfReason(int number, int count) {
        int rank = 0;
        for (int i = 0; i < count; i++) {
            if (now.comesBefore(reasonRow[i], number)) {
                rank++;
            }
        }
        return rank;
    }

    public int overridden(int result) {
        if (!isResult(result)) {
            return BAD_VALUE;
        }
        int count = 0;
        for (int i = 0; i < now.sentenceCount; i++) {
            if (now.applies(i, result, now.facts, NO_SENTENCE)
                    && now.isOverridden(i, result, now.facts, NO_SENTENCE)) {
                count++;
            }
        }
        return count;
    }

    public int holds(int word) {
        if (!isDefinable(word)) {
            return BAD_VALUE;
        }
        Sentence meaning = now.sentenceAt(now.definitionOf(word));
        if (meaning == null) {
            return NONE;
        }
        return meaning.region.hasValues(now.facts) ? 1 : 0;
    }

    public int compare(int a, int b) {
        Sentence first = now.sentenceAt(a);
        Sentence second = now.sentenceAt(b);
        if (first == null || second == null) {
            return NO_SUCH_SENTENCE;
        }
        if (first.region.isSameAs(second.region)) {
            return 0;
        }
        if (first.region.isInside(second.region)) {
            return 1;
        }
        if (second.region.isInside(first.region)) {
            return 2;
        }
        return first.region.meets(second.region) ? 3 : 4;
    }

    public int contradiction(int index) {
        if (index < 0) {
            return BAD_VALUE;
        }
        int found = 0;
        for (int a = 0; a < now.sentenceCount; a++) {
            for (int b = a + 1; b < now.sentenceCount; b++) {
                if (now.doContradict(a, b)) {
                    if (found == index) {
                        return 100 * a + b;
                    }
                    found++;
                }
            }
        }
        return NONE;
    }

    // ---- what would be; nothing changes

    public int answerIf(int result, int fact, int value) {
        if (!isResult(result) || !isFact(fact) || !isValueOf(fact, value)) {
            return BAD_VALUE;
        }
        return answerSupposing(result, fact, value);
    }

    private int answerSupposing(int result, int fact, int value) {
        System.arraycopy(now.facts, 0, supposed, 0, FACTS);
        supposed[fact] = value;
        return now.answerFor(result, supposed, NO_SENTENCE);
    }

    public int nextChange(int result, int fact) {
        if (!isResult(result) || !isFact(fact)) {
            return BAD_VALUE;
        }
        int present = now.answerFor(result, now.facts, NO_SENTENCE);
        int value = now.nextBorder(result, fact, now.facts[fact]);
        for (int tried = 0; value != NONE && tried < MOST_BORDERS; tried++) {
            if (answerSupposing(result, fact, value) != present) {
                return value;
            }
            value = now.nextBorder(result, fact, value);
        }
        return NONE;
    }

    public int leastFor(int result, int fact, int wanted) {
        if (!isResult(result) || !isFact(fact) || !isNumber(wanted)) {
            return BAD_VALUE;
        }
        int value = lowestOf(fact);
        for (int tried = 0; value != NONE && tried <= MOST_BORDERS; tried++) {
            if (answerSupposing(result, fact, value) == wanted) {
                return value;
            }
            value = now.nextBorder(result, fact, value);
        }
        return NONE;
    }

    public int matters(int sentence) {
        Sentence told = now.sentenceAt(sentence);
        if (told == null) {
            return NO_SUCH_SENTENCE;
        }
        if (told.isDefinition()) {
            return 0;
        }
        int with = now.answerFor(told.about, now.facts, NO_SENTENCE);
        int without = now.answerFor(told.about, now.facts, sentence);
        return with == without ? 0 : 1;
    }

    // ---- ranges

    private static boolean isNumber(int value) {
        return value >= LEAST_NUMBER && value <= GREATEST_NUMBER;
    }

    private static boolean isFact(int fact) {
        return fact >= 0 && fact < FACTS;
    }

    private static boolean isResult(int result) {
        return result >= 0 && result < RESULTS;
    }

    private static boolean isDefinable(int word) {
        return word >= 0 && word < DEFINABLE;
    }

    private static int lowestOf(int fact) {
        return fact < BIRTH_FACT ? LEAST_NUMBER : 0;
    }

    private static int highestOf(int fact) {
        return fact < BIRTH_FACT ? GREATEST_NUMBER : LAST_DAY;
    }

    private static boolean isValueOf(int fact, int value) {
        return value >= lowestOf(fact) && value <= highestOf(fact);
    }

    private static boolean isBetween(int least, int value, int greatest) {
        return value >= least && value <= greatest;
    }

    private static boolean isBitSet(int bits, int bit) {
        return (bits >> bit & 1) == 1;
    }

    /** The tokens of a sentence in their order. Only its own methods change the count, so that it stays in range. */
    private static final class Tokens {
        int count;
        final int[] kinds = new int[MOST_TOKENS];
        final int[] values = new int[MOST_TOKENS];

        boolean append(int kind, int value) {
            if (count >= MOST_TOKENS) {
                return false;
            }
            kinds[count] = kind;
            values[count] = value;
            count++;
            return true;
        }

        boolean removeLast() {
            if (count <= 0) {
                return false;
            }
            count--;
            return true;
        }

        void removeAll() {
            count = 0;
        }

        void copyFrom(Tokens other) {
            count = other.count;
            System.arraycopy(other.kinds, 0, kinds, 0, MOST_TOKENS);
            System.arraycopy(other.values, 0, values, 0, MOST_TOKENS);
        }
    }

    /** A least and a greatest value for each fact. */
    private static final class Region {
        final int[] lows = new int[FACTS];
        final int[] highs = new int[FACTS];

        void widen() {
            for (int i = 0; i < FACTS; i++) {
                lows[i] = lowestOf(i);
                highs[i] = highestOf(i);
            }
        }

        void copyFrom(Region other) {
            System.arraycopy(other.lows, 0, lows, 0, FACTS);
            System.arraycopy(other.highs, 0, highs, 0, FACTS);
        }

        void keepFrom(int fact, int value) {
            if (isFact(fact)) {
                lows[fact] = Math.max(lows[fact], value);
            }
        }

        void keepUntil(int fact, int value) {
            if (isFact(fact)) {
                highs[fact] = Math.min(highs[fact], value);
            }
        }

        void narrowTo(Region other) {
            for (int i = 0; i < FACTS; i++) {
                keepFrom(i, other.lows[i]);
                keepUntil(i, other.highs[i]);
            }
        }

        boolean isEmpty() {
            for (int i = 0; i < FACTS; i++) {
                if (lows[i] > highs[i]) {
                    return true;
                }
            }
            return false;
        }

        boolean hasValues(int[] facts) {
            for (int i = 0; i < FACTS && i < facts.length; i++) {
                if (facts[i] < lows[i] || facts[i] > highs[i]) {
                    return false;
                }
            }
            return true;
        }

        boolean isInside(Region other) {
            for (int i = 0; i < FACTS; i++) {
                if (lows[i] < other.lows[i] || highs[i] > other.highs[i]) {
                    return false;
                }
            }
            return true;
        }

        boolean isSameAs(Region other) {
            return isInside(other) && other.isInside(this);
        }

        boolean isStrictlyInside(Region other) {
            return isInside(other) && !other.isInside(this);
        }

        boolean meets(Region other) {
            for (int i = 0; i < FACTS; i++) {
                if (Math.max(lows[i], other.lows[i]) > Math.min(highs[i], other.highs[i])) {
                    return false;
                }
            }
            return true;
        }

        /** Whether this region is exactly what two others that meet have in common. */
        boolean isCommonTo(Region a, Region b) {
            for (int i = 0; i < FACTS; i++) {
                if (lows[i] != Math.max(a.lows[i], b.lows[i]) || highs[i] != Math.min(a.highs[i], b.highs[i])) {
                    return false;
                }
            }
            return true;
        }

        int limitedFacts() {
            int count = 0;
            for (int i = 0; i < FACTS; i++) {
                if (lows[i] != lowestOf(i) || highs[i] != highestOf(i)) {
                    count++;
                }
            }
            return count;
        }
    }

    /** Reads tokens one after another, and keeps what the sentence says as far as it has come. */
    private static final class Reader {
        int about;
        int given;
        int used;
        final Region region = new Region();
        private int place;
        private boolean inRule;
        private int limitedFact;
        private boolean negated;
        private int comparison;

        int firstError(Tokens tokens) {
            begin();
            for (int i = 0; i < tokens.count; i++) {
                place = placeAfter(tokens.kinds[i], tokens.values[i]);
                if (place == NOWHERE) {
                    return i;
                }
            }
            return isComplete() ? NONE : tokens.count;
        }

        private void begin() {
            about = 0;
            given = 0;
            used = 0;
            region.widen();
            place = AT_START;
            inRule = true;
        }

        private boolean isComplete() {
            switch (place) {
                case AT_AND:
                    return !inRule;
                case AT_FROM:
                case AT_UNTIL:
                case AT_END:
                    return true;
                default:
                    return false;
            }
        }

        private int placeAfter(int kind, int value) {
            int code = kind == WORD ? value : NO_WORD;
            switch (place) {
                case AT_START:
                    return afterFirst(code);
                case AT_MEANS:
                    return code == MEANS ? AT_CONDITION : NOWHERE;
                case AT_CONDITION:
                    return afterSubject(code);
                case AT_COMPARISON:
                    return afterComparison(code);
                case AT_OVER_OR_UNDER:
                    return afterOverOrUnder(code);
                case AT_VALUE:
                    return kind == kindOfValue() ? afterValue(value) : NOWHERE;
                case AT_AND:
                    return afterConditionEnd(code);
                case AT_RESULT:
                    return afterResult(code);
                case AT_IS:
                    return code == IS ? AT_NUMBER : NOWHERE;
                case AT_NUMBER:
                    return kind == NUMBER ? afterGiven(value) : NOWHERE;
                case AT_FROM:
                    return code == FROM ? AT_FROM_DATE : afterUntil(code);
                case AT_FROM_DATE:
                    return kind == DATE ? afterFromDate(value) : NOWHERE;
                case AT_UNTIL:
                    return afterUntil(code);
                case AT_UNTIL_DATE:
                    return kind == DATE ? afterUntilDate(value) : NOWHERE;
                default:
                    return NOWHERE;
            }
        }

        private int afterFirst(int code) {
            if (code == IF) {
                return AT_CONDITION;
            }
            if (isBetween(MINOR, code, LATE)) {
                inRule = false;
                about = FIRST_DEFINED + code - MINOR;
                return AT_MEANS;
            }
            return afterResult(code);
        }

        private int afterSubject(int code) {
            if (isBetween(MINOR, code, LATE)) {
                used |= 1 << (code - MINOR);
                return AT_AND;
            }
            if (isBetween(AGE, code, ENTRY)) {
                limitedFact = code - AGE;
                negated = false;
                return AT_COMPARISON;
            }
            return NOWHERE;
        }

        private int afterComparison(int code) {
            if (code == IS) {
                comparison = IS;
                return AT_VALUE;
            }
            if (code == NOT) {
                negated = true;
                return AT_OVER_OR_UNDER;
            }
            return afterOverOrUnder(code);
        }

        private int afterOverOrUnder(int code) {
            if (code != OVER && code != UNDER) {
                return NOWHERE;
            }
            comparison = code;
            return AT_VALUE;
        }

        private int kindOfValue() {
            return limitedFact < BIRTH_FACT ? NUMBER : DATE;
        }

        private int afterValue(int value) {
            if (comparison == IS) {
                region.keepFrom(limitedFact, value);
                region.keepUntil(limitedFact, value);
            } else if (comparison == OVER && negated) {
                region.keepUntil(limitedFact, value);
            } else if (comparison == OVER) {
                region.keepFrom(limitedFact, value + 1);
            } else if (negated) {
                region.keepFrom(limitedFact, value);
            } else {
                region.keepUntil(limitedFact, value - 1);
            }
            return AT_AND;
        }

        private int afterConditionEnd(int code) {
            if (code == AND) {
                return AT_CONDITION;
            }
            return code == THEN && inRule ? AT_RESULT : NOWHERE;
        }

        private int afterResult(int code) {
            if (!isBetween(FEE, code, GRADE)) {
                return NOWHERE;
            }
            about = code - FEE;
            return AT_IS;
        }

        private int afterGiven(int value) {
            given = value;
            return AT_FROM;
        }

        private int afterFromDate(int value) {
            region.keepFrom(TODAY, value);
            return AT_UNTIL;
        }

        private int afterUntil(int code) {
            return code == UNTIL ? AT_UNTIL_DATE : NOWHERE;
        }

        private int afterUntilDate(int value) {
            region.keepUntil(TODAY, value);
            return AT_END;
        }
    }

    /** A sentence that was told. It never changes, so that all recorded states can share it. */
    private static final class Sentence {
        // Written once, when the sentence is told, so that asking for a character makes nothing.
        final String text;
        final Region region = new Region();
        final int about;
        final int given;
        final int used;

        Sentence(String text, Reader reader) {
            this.text = text;
            region.copyFrom(reader.region);
            about = reader.about;
            given = reader.given;
            used = reader.used;
        }

        boolean isDefinition() {
            return about >= FIRST_DEFINED;
        }

        boolean isRuleFor(int result) {
            return about == result;
        }
    }

    /** What undo restores: the book, the facts and the present sentence. */
    private static final class State {
        int sentenceCount;
        final Sentence[] book = new Sentence[MOST_SENTENCES];
        final int[] facts = new int[FACTS];
        final Tokens present = new Tokens();

        State() {
            facts[TODAY] = FIRST_TODAY;
        }

        void copyFrom(State other) {
            sentenceCount = other.sentenceCount;
            for (int i = 0; i < MOST_SENTENCES; i++) {
                book[i] = other.book[i];
            }
            System.arraycopy(other.facts, 0, facts, 0, FACTS);
            present.copyFrom(other.present);
        }

        /** Answers null for a number that belongs to no sentence. */
        Sentence sentenceAt(int number) {
            return number >= 0 && number < sentenceCount && number < MOST_SENTENCES ? book[number] : null;
        }

        void addSentence(Sentence sentence) {
            if (sentenceCount < MOST_SENTENCES) {
                book[sentenceCount] = sentence;
                sentenceCount++;
            }
        }

        void removeSentence(int number) {
            if (number < 0 || number >= sentenceCount) {
                return;
            }
            for (int i = number + 1; i < sentenceCount; i++) {
                book[i - 1] = book[i];
            }
            sentenceCount--;
            book[sentenceCount] = null;
        }

        int definitionOf(int defined) {
            for (int i = 0; i < sentenceCount; i++) {
                Sentence sentence = sentenceAt(i);
                if (sentence != null && sentence.about == FIRST_DEFINED + defined) {
                    return i;
                }
            }
            return NO_SENTENCE;
        }

        boolean isUsed(int defined) {
            for (int i = 0; i < sentenceCount; i++) {
                Sentence sentence = sentenceAt(i);
                if (sentence != null && isBitSet(sentence.used, defined)) {
                    return true;
                }
            }
            return false;
        }

        boolean applies(int number, int result, int[] values, int leftOut) {
            Sentence rule = sentenceAt(number);
            return rule != null && number != leftOut && rule.isRuleFor(result) && rule.region.hasValues(values);
        }

        boolean isOverridden(int number, int result, int[] values, int leftOut) {
            Sentence general = sentenceAt(number);
            if (general == null) {
                return false;
            }
            for (int i = 0; i < sentenceCount; i++) {
                Sentence special = sentenceAt(i);
                if (special != null && applies(i, result, values, leftOut)
                        && special.region.isStrictlyInside(general.region)) {
                    return true;
                }
            }
            return false;
        }

        boolean isReason(int number, int result, int[] values, int leftOut) {
            return applies(number, result, values, leftOut) && !isOverridden(number, result, values, leftOut);
        }

        /** The answer with these values of the facts, as if the sentence left out was not in the book. */
        int answerFor(int result, int[] values, int leftOut) {
            int found = NONE;
            for (int i = 0; i < sentenceCount; i++) {
                Sentence rule = sentenceAt(i);
                if (rule != null && isReason(i, result, values, leftOut)) {
                    if (found != NONE && found != rule.given) {
                        return REFUSED;
                    }
                    found = rule.given;
                }
            }
            return found;
        }

        boolean comesBefore(int number, int other) {
            Sentence sentence = sentenceAt(number);
            Sentence compared = sentenceAt(other);
            if (sentence == null || compared == null) {
                return false;
            }
            int difference = sentence.region.limitedFacts() - compared.region.limitedFacts();
            return difference > 0 || difference == 0 && number < other;
        }

        boolean doContradict(int a, int b) {
            Sentence first = sentenceAt(a);
            Sentence second = sentenceAt(b);
            if (first == null || second == null || first.isDefinition() || first.about != second.about) {
                return false;
            }
            return first.given != second.given && first.region.meets(second.region)
                    && !first.region.isStrictlyInside(second.region)
                    && !second.region.isStrictlyInside(first.region)
                    && !hasRuleForCommonRegion(first, second);
        }

        private boolean hasRuleForCommonRegion(Sentence first, Sentence second) {
            for (int i = 0; i < sentenceCount; i++) {
                Sentence rule = sentenceAt(i);
                if (rule != null && rule.isRuleFor(first.about)
                        && rule.region.isCommonTo(first.region, second.region)) {
                    return true;
                }
            }
            return false;
        }

        /** The least value of a fact above this one at which a rule for the result begins or has just ended. */
        int nextBorder(int result, int fact, int value) {
            int next = NONE;
            for (int i = 0; i < sentenceCount && isFact(fact); i++) {
                Sentence rule = sentenceAt(i);
                if (rule != null && rule.isRuleFor(result)) {
                    next = nearer(next, rule.region.lows[fact], value);
                    next = nearer(next, rule.region.highs[fact] + 1, value);
                }
            }
            return next != NONE && next <= highestOf(fact) ? next : NONE;
        }

        private static int nearer(int next, int border, int value) {
            return border > value && (next == NONE || border < next) ? border : next;
        }
    }
}
