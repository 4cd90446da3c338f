/** Promises 12 to 22: sentences, about, gives, least, greatest, sharpness, uses, fact, definition, length, character. */
public final class ContentsTest {
    private static final Checks checks = new Checks();
    private static final int[] LOWEST = {-9999, -9999, -9999, -9999, 0, 0, 0};
    private static final int[] HIGHEST = {9999, 9999, 9999, 9999, 73048, 73048, 73048};

    public static void main(String[] args) {
        aboutAndGives();
        regionsOfConditions();
        regionsOfWords();
        regionsOfDates();
        sharpnessCountsLimitedFacts();
        usesOnlyOwnConditions();
        wrongSentences();
        wrongFactsAndWords();
        definitions();
        texts();
        textOfEveryWord();
        characters();
        checks.end("ContentsTest");
    }

    private static void aboutAndGives() {
        String[] defined = {"minor", "senior", "small", "large", "early", "late"};
        String[] results = {"fee", "rate", "limit", "grade"};
        SentenceRules rules = new SentenceRules();
        for (int i = 0; i < defined.length; i++) {
            checks.due("tell()", Checks.tell(rules, defined[i] + " means age is " + i), i);
            checks.due("about(" + i + ")", rules.about(i), 10 + i);
            checks.due("gives(" + i + ")", rules.gives(i), Checks.NONE);
            checks.due("sentences()", rules.sentences(), i + 1);
        }
        int[] numbers = {-9999, 0, 9999, -7};
        for (int i = 0; i < results.length; i++) {
            checks.due("tell()", Checks.tell(rules, results[i] + " is " + numbers[i]), 6 + i);
            checks.due("about(" + (6 + i) + ")", rules.about(6 + i), i);
            checks.due("gives(" + (6 + i) + ")", rules.gives(6 + i), numbers[i]);
        }
        checks.due("tell()", Checks.tell(rules, "if age is 4 then grade is 5"), 10);
        checks.due("about(10)", rules.about(10), 3);
        checks.due("gives(10)", rules.gives(10), 5);
    }

    /** The sentence limits just this fact to these values. */
    private static void dueLimits(String sentence, int fact, int least, int greatest) {
        SentenceRules rules = Checks.book(sentence);
        dueRegion(rules, 0, fact, least, greatest);
        for (int other = 0; other < 7; other++) {
            if (other != fact) {
                dueRegion(rules, 0, other, LOWEST[other], HIGHEST[other]);
            }
        }
    }

    private static void dueRegion(SentenceRules rules, int sentence, int fact, int least, int greatest) {
        checks.due("least(" + sentence + ", " + fact + ")", rules.least(sentence, fact), least);
        checks.due("greatest(" + sentence + ", " + fact + ")", rules.greatest(sentence, fact), greatest);
    }

    private static void regionsOfConditions() {
        String[] facts = {"age", "income", "size", "count"};
        for (int fact = 0; fact < 4; fact++) {
            String start = "if " + facts[fact];
            dueLimits(start + " is 5 then fee is 1", fact, 5, 5);
            dueLimits(start + " over 5 then fee is 1", fact, 6, 9999);
            dueLimits(start + " under 5 then fee is 1", fact, -9999, 4);
            dueLimits(start + " not over 5 then fee is 1", fact, -9999, 5);
            dueLimits(start + " not under 5 then fee is 1", fact, 5, 9999);
        }
        dueLimits("minor means age over 2 and age under 9 and age not over 7 and age not under -3", 0, 3, 7);
        dueLimits("minor means age not over 7 and age not over 9 and age not over 8", 0, -9999, 7);
        dueLimits("minor means age over 9998", 0, 9999, 9999);
        dueLimits("minor means age under -9998", 0, -9999, -9999);
        dueLimits("minor means age not over 9999", 0, -9999, 9999);
        // A "not" holds for its own condition alone.
        dueLimits("minor means age not over 7 and age over 5", 0, 6, 7);
    }

    private static void regionsOfWords() {
        SentenceRules rules = Checks.book("minor means age under 18", "small means minor and size not over 3",
                "if small and age over 5 and count is 2 then fee is 1", "late means small");
        dueRegion(rules, 1, 0, -9999, 17);
        dueRegion(rules, 1, 2, -9999, 3);
        dueRegion(rules, 2, 0, 6, 17);
        dueRegion(rules, 2, 1, -9999, 9999);
        dueRegion(rules, 2, 2, -9999, 3);
        dueRegion(rules, 2, 3, 2, 2);
        dueRegion(rules, 3, 0, -9999, 17);
        dueRegion(rules, 3, 2, -9999, 3);
    }

    private static void regionsOfDates() {
        dueLimits("if birth is 2000-01-01 then fee is 1", 4, 36524, 36524);
        dueLimits("if birth over 2000-01-01 then fee is 1", 4, 36525, 73048);
        dueLimits("if entry under 2000-01-01 then fee is 1", 5, 0, 36523);
        dueLimits("if entry not over 2000-01-01 then fee is 1", 5, 0, 36524);
        dueLimits("if birth not under 2000-01-01 then fee is 1", 4, 36524, 73048);
        dueLimits("fee is 1 from 2000-01-01", 6, 36524, 73048);
        dueLimits("fee is 1 until 2000-01-01", 6, 0, 36524);
        dueLimits("fee is 1 from 2000-01-01 until 2000-01-03", 6, 36524, 36526);
    }

    private static void dueSharpness(String sentence, int want) {
        checks.due("sharpness of '" + sentence + "'", Checks.book(sentence).sharpness(0), want);
    }

    private static void sharpnessCountsLimitedFacts() {
        dueSharpness("fee is 1", 0);
        dueSharpness("fee is 1 from 1900-01-01 until 2099-12-31", 0);
        dueSharpness("fee is 1 from 1900-01-02", 1);
        dueSharpness("fee is 1 until 2099-12-30", 1);
        dueSharpness("if age not under -9999 and size not over 9999 then fee is 1", 0);
        dueSharpness("if age over -9999 and size under 9999 then fee is 1", 2);
        dueSharpness("if age over 3 and age under 9 then fee is 1", 1);
        dueSharpness("if age is 1 and income is 1 and size is 1 and count is 1 and birth is 2000-01-01 "
                + "then fee is 1", 5);
        SentenceRules rules = Checks.book("late means birth over 2000-01-01 and entry over 2000-01-01 "
                + "and size is 1 and count is 1", "if late and age is 1 and income is 1 then fee is 1 from 2000-01-01");
        checks.due("sharpness(0)", rules.sharpness(0), 4);
        checks.due("sharpness(1)", rules.sharpness(1), 7);
    }

    private static void usesOnlyOwnConditions() {
        SentenceRules rules = Checks.book("minor means age under 18", "senior means minor", "small means age is 1",
                "large means age is 1", "early means age is 1", "late means small and small and early",
                "if late and senior and late then fee is 1",
                "if minor and senior and small and large and early and late then fee is 1", "fee is 1");
        int[] bits = {0, 1, 0, 0, 0, 20, 34, 63, 0};
        for (int i = 0; i < bits.length; i++) {
            checks.due("uses(" + i + ")", rules.uses(i), bits[i]);
        }
    }

    private static void wrongSentences() {
        SentenceRules rules = Checks.book("fee is 1", "minor means age is 1");
        int[] wrong = {-1, 2, 16, Integer.MIN_VALUE, Integer.MAX_VALUE};
        for (int number : wrong) {
            checks.due("about(" + number + ")", rules.about(number), Checks.NO_SUCH_SENTENCE);
            checks.due("gives(" + number + ")", rules.gives(number), Checks.NO_SUCH_SENTENCE);
            checks.due("least(" + number + ", 0)", rules.least(number, 0), Checks.NO_SUCH_SENTENCE);
            checks.due("least(" + number + ", 7)", rules.least(number, 7), Checks.NO_SUCH_SENTENCE);
            checks.due("greatest(" + number + ", 0)", rules.greatest(number, 0), Checks.NO_SUCH_SENTENCE);
            checks.due("greatest(" + number + ", -1)", rules.greatest(number, -1), Checks.NO_SUCH_SENTENCE);
            checks.due("sharpness(" + number + ")", rules.sharpness(number), Checks.NO_SUCH_SENTENCE);
            checks.due("uses(" + number + ")", rules.uses(number), Checks.NO_SUCH_SENTENCE);
            checks.due("length(" + number + ")", rules.length(number), Checks.NO_SUCH_SENTENCE);
            checks.due("character(" + number + ", 0)", rules.character(number, 0), Checks.NO_SUCH_SENTENCE);
            checks.due("character(" + number + ", -1)", rules.character(number, -1), Checks.NO_SUCH_SENTENCE);
        }
    }

    private static void wrongFactsAndWords() {
        SentenceRules rules = Checks.book("fee is 1");
        int[] wrong = {-1, 7, Integer.MIN_VALUE, Integer.MAX_VALUE};
        for (int fact : wrong) {
            checks.due("fact(" + fact + ")", rules.fact(fact), Checks.BAD_VALUE);
            checks.due("least(0, " + fact + ")", rules.least(0, fact), Checks.BAD_VALUE);
            checks.due("greatest(0, " + fact + ")", rules.greatest(0, fact), Checks.BAD_VALUE);
            checks.due("definition(" + fact + ")", rules.definition(fact), Checks.BAD_VALUE);
        }
        checks.due("definition(6)", rules.definition(6), Checks.BAD_VALUE);
        checks.due("fact(6)", rules.fact(6), 36524);
    }

    private static void definitions() {
        SentenceRules rules = Checks.book("fee is 1", "late means age is 1", "minor means late");
        checks.due("definition(5)", rules.definition(5), 1);
        checks.due("definition(0)", rules.definition(0), 2);
        checks.due("definition(1)", rules.definition(1), Checks.NONE);
        rules.retract(0);
        checks.due("definition(5)", rules.definition(5), 0);
        rules.retract(1);
        checks.due("definition(0)", rules.definition(0), Checks.NONE);
    }

    private static void texts() {
        String[] sentences = {
            "fee is 0",
            "fee is -9999",
            "rate is 10 from 1900-01-01",
            "limit is -10 until 2099-12-31",
            "minor means age not over 17 and income under 9 and size is 99 and count over 999",
            "if minor and birth not under 2004-02-29 then grade is 100 from 1999-09-09 until 2000-10-10",
        };
        SentenceRules rules = Checks.book(sentences);
        for (int i = 0; i < sentences.length; i++) {
            checks.due("length(" + i + ")", rules.length(i), sentences[i].length() + 1);
            checks.dueText(rules, i, sentences[i] + ".");
        }
    }

    private static void textOfEveryWord() {
        String[] sentences = {
            "minor means age not over 1", "senior means income under 2", "small means size is 3",
            "large means count over 4", "early means birth under 2000-01-01", "late means entry over 2000-01-01",
            "if minor and senior then fee is 5", "if small and large then rate is 6",
            "if early then limit is 7 from 1999-12-31", "if late then grade is 8 until 2001-01-31",
        };
        SentenceRules rules = Checks.book(sentences);
        for (int i = 0; i < sentences.length; i++) {
            checks.dueText(rules, i, sentences[i] + ".");
        }
    }

    private static void characters() {
        SentenceRules rules = Checks.book("fee is -1");
        checks.due("length(0)", rules.length(0), 10);
        checks.due("character(0, 0)", rules.character(0, 0), 'f');
        checks.due("character(0, 3)", rules.character(0, 3), ' ');
        checks.due("character(0, 7)", rules.character(0, 7), '-');
        checks.due("character(0, 8)", rules.character(0, 8), '1');
        checks.due("character(0, 9)", rules.character(0, 9), '.');
        checks.due("character(0, 10)", rules.character(0, 10), Checks.BAD_VALUE);
        checks.due("character(0, -1)", rules.character(0, -1), Checks.BAD_VALUE);
        checks.due("character(0, min)", rules.character(0, Integer.MIN_VALUE), Checks.BAD_VALUE);
        checks.due("character(0, max)", rules.character(0, Integer.MAX_VALUE), Checks.BAD_VALUE);
    }
}
