/** Promises 25 to 31: answer, reasons, reason, overridden, holds, compare, contradiction. */
public final class AnswersTest {
    private static final Checks checks = new Checks();

    public static void main(String[] args) {
        answersOfOneRule();
        specialRulesOverride();
        overriddenRulesStillOverride();
        onlyApplyingRulesOverride();
        equalRegionsDoNotOverride();
        orderOfReasons();
        resultsAreApart();
        wrongResults();
        holdsOfWords();
        comparisons();
        contradictions();
        noContradictions();
        orderOfContradictions();
        checks.end("AnswersTest");
    }

    private static void dueAnswer(SentenceRules rules, int answer, int reasons, int overridden) {
        checks.due("answer(0)", rules.answer(0), answer);
        checks.due("reasons(0)", rules.reasons(0), reasons);
        checks.due("overridden(0)", rules.overridden(0), overridden);
    }

    private static void answersOfOneRule() {
        SentenceRules rules = Checks.book("if age over 3 and age under 6 then fee is -9999 from 2000-01-01");
        dueAnswer(rules, Checks.NONE, 0, 0);
        checks.due("reason(0, 0)", rules.reason(0, 0), Checks.NONE);
        rules.setFact(0, 4);
        dueAnswer(rules, -9999, 1, 0);
        checks.due("reason(0, 0)", rules.reason(0, 0), 0);
        rules.setFact(0, 5);
        dueAnswer(rules, -9999, 1, 0);
        rules.setFact(0, 6);
        dueAnswer(rules, Checks.NONE, 0, 0);
        rules.setFact(0, 5);
        rules.setFact(6, 36523);
        dueAnswer(rules, Checks.NONE, 0, 0);
    }

    private static void specialRulesOverride() {
        SentenceRules rules = Checks.book("if age over 0 then fee is 2", "fee is 1",
                "if age over 0 and size over 0 then fee is 3");
        dueAnswer(rules, 1, 1, 0);
        checks.due("reason(0, 0)", rules.reason(0, 0), 1);
        rules.setFact(0, 1);
        dueAnswer(rules, 2, 1, 1);
        checks.due("reason(0, 0)", rules.reason(0, 0), 0);
        rules.setFact(2, 1);
        dueAnswer(rules, 3, 1, 2);
        checks.due("reason(0, 0)", rules.reason(0, 0), 2);
        checks.due("reason(0, 1)", rules.reason(0, 1), Checks.NONE);
        rules.setFact(0, 0);
        dueAnswer(rules, 1, 1, 0);
    }

    /** A rule that is itself overridden overrides all the same. */
    private static void overriddenRulesStillOverride() {
        SentenceRules rules = Checks.book("if age over -5 then fee is 1", "if age over -3 then fee is 2",
                "if age over -1 then fee is 3", "if size is 0 then fee is 4");
        dueAnswer(rules, Checks.REFUSED, 2, 2);
        checks.due("reason(0, 0)", rules.reason(0, 0), 2);
        checks.due("reason(0, 1)", rules.reason(0, 1), 3);
    }

    private static void onlyApplyingRulesOverride() {
        SentenceRules rules = Checks.book("if age over -5 then fee is 1", "if age over 3 then fee is 2",
                "small means age is 0", "if age is 0 then rate is 5");
        dueAnswer(rules, 1, 1, 0);
    }

    private static void equalRegionsDoNotOverride() {
        SentenceRules rules = Checks.book("fee is 1", "if age not over 9999 then fee is 1");
        dueAnswer(rules, 1, 2, 0);
        checks.due("reason(0, 0)", rules.reason(0, 0), 0);
        checks.due("reason(0, 1)", rules.reason(0, 1), 1);
        Checks.tell(rules, "fee is 2");
        dueAnswer(rules, Checks.REFUSED, 3, 0);
        Checks.tell(rules, "if size is 0 then fee is 7");
        dueAnswer(rules, 7, 1, 3);
    }

    private static void orderOfReasons() {
        SentenceRules rules = Checks.book("if age is 0 then fee is 1", "if size is 0 and count is 0 then fee is 2",
                "if income is 0 then fee is 1", "if count is 0 and birth is 1900-01-01 then fee is 2",
                "if entry is 1900-01-01 and birth under 1900-01-02 and size under 3 then fee is 3",
                "if count over 3 then fee is 9", "rate is 4");
        checks.due("reasons(0)", rules.reasons(0), 5);
        int[] order = {4, 1, 3, 0, 2};
        for (int i = 0; i < order.length; i++) {
            checks.due("reason(0, " + i + ")", rules.reason(0, i), order[i]);
        }
        checks.due("reason(0, 5)", rules.reason(0, 5), Checks.NONE);
        checks.due("reason(0, max)", rules.reason(0, Integer.MAX_VALUE), Checks.NONE);
        checks.due("answer(0)", rules.answer(0), Checks.REFUSED);
        checks.due("overridden(0)", rules.overridden(0), 0);
    }

    private static void resultsAreApart() {
        SentenceRules rules = Checks.book("fee is 1", "if age is 0 then rate is 2", "limit is 3", "limit is 4");
        checks.due("answer(0)", rules.answer(0), 1);
        checks.due("answer(1)", rules.answer(1), 2);
        checks.due("answer(2)", rules.answer(2), Checks.REFUSED);
        checks.due("answer(3)", rules.answer(3), Checks.NONE);
        checks.due("overridden(0)", rules.overridden(0), 0);
        checks.due("reasons(2)", rules.reasons(2), 2);
        checks.due("reason(1, 0)", rules.reason(1, 0), 1);
        checks.due("reasons(3)", rules.reasons(3), 0);
    }

    private static void wrongResults() {
        SentenceRules rules = Checks.book("fee is 1");
        int[] wrong = {-1, 4, Integer.MIN_VALUE, Integer.MAX_VALUE};
        for (int result : wrong) {
            checks.due("answer(" + result + ")", rules.answer(result), Checks.BAD_VALUE);
            checks.due("reasons(" + result + ")", rules.reasons(result), Checks.BAD_VALUE);
            checks.due("reason(" + result + ", 0)", rules.reason(result, 0), Checks.BAD_VALUE);
            checks.due("overridden(" + result + ")", rules.overridden(result), Checks.BAD_VALUE);
        }
        checks.due("reason(0, -1)", rules.reason(0, -1), Checks.BAD_VALUE);
        checks.due("reason(0, min)", rules.reason(0, Integer.MIN_VALUE), Checks.BAD_VALUE);
    }

    private static void holdsOfWords() {
        SentenceRules rules = Checks.book("minor means age under 18", "late means minor and entry over 2000-01-01");
        checks.due("holds(0)", rules.holds(0), 1);
        checks.due("holds(5)", rules.holds(5), 0);
        checks.due("holds(1)", rules.holds(1), Checks.NONE);
        rules.setFact(5, 36525);
        checks.due("holds(5)", rules.holds(5), 1);
        rules.setFact(0, 18);
        checks.due("holds(0)", rules.holds(0), 0);
        checks.due("holds(5)", rules.holds(5), 0);
        checks.due("holds(-1)", rules.holds(-1), Checks.BAD_VALUE);
        checks.due("holds(6)", rules.holds(6), Checks.BAD_VALUE);
        checks.due("holds(max)", rules.holds(Integer.MAX_VALUE), Checks.BAD_VALUE);
    }

    private static void comparisons() {
        SentenceRules rules = Checks.book("fee is 1", "minor means age under 18", "if minor then rate is 1",
                "if age under 18 and size over 3 then fee is 1", "if size over 2 then fee is 1",
                "if age not under 18 then fee is 1", "if age not under 17 then fee is 1");
        int[][] due = {
            {0, 2, 2, 2, 2, 2, 2},
            {1, 0, 0, 2, 3, 4, 3},
            {1, 0, 0, 2, 3, 4, 3},
            {1, 1, 1, 0, 1, 4, 3},
            {1, 3, 3, 2, 0, 3, 3},
            {1, 4, 4, 4, 3, 0, 1},
            {1, 3, 3, 3, 3, 2, 0},
        };
        for (int a = 0; a < due.length; a++) {
            for (int b = 0; b < due.length; b++) {
                checks.due("compare(" + a + ", " + b + ")", rules.compare(a, b), due[a][b]);
            }
        }
        checks.due("compare(0, 7)", rules.compare(0, 7), Checks.NO_SUCH_SENTENCE);
        checks.due("compare(7, 0)", rules.compare(7, 0), Checks.NO_SUCH_SENTENCE);
        checks.due("compare(-1, 0)", rules.compare(-1, 0), Checks.NO_SUCH_SENTENCE);
        checks.due("compare(0, max)", rules.compare(0, Integer.MAX_VALUE), Checks.NO_SUCH_SENTENCE);
    }

    private static void contradictions() {
        SentenceRules rules = Checks.book("if age over 3 then fee is 1", "if age under 5 then fee is 2");
        checks.due("contradiction(0)", rules.contradiction(0), 1);
        checks.due("contradiction(1)", rules.contradiction(1), Checks.NONE);
        checks.due("contradiction(max)", rules.contradiction(Integer.MAX_VALUE), Checks.NONE);
        checks.due("contradiction(-1)", rules.contradiction(-1), Checks.BAD_VALUE);
        checks.due("contradiction(min)", rules.contradiction(Integer.MIN_VALUE), Checks.BAD_VALUE);
        // Rules for another result, definitions and smaller regions do not settle it; the common region does.
        Checks.tell(rules, "if age is 4 then rate is 7");
        Checks.tell(rules, "small means age is 4");
        Checks.tell(rules, "if age is 4 and size is 1 then fee is 7");
        checks.due("contradiction(0)", rules.contradiction(0), 1);
        Checks.tell(rules, "if small then fee is 2");
        checks.due("contradiction(0)", rules.contradiction(0), Checks.NONE);
        rules.retract(5);
        checks.due("contradiction(0)", rules.contradiction(0), 1);
        SentenceRules settledFirst = Checks.book("if age is 4 then fee is 9", "if age over 3 then fee is 1",
                "if age under 5 then fee is 2");
        checks.due("contradiction(0)", settledFirst.contradiction(0), Checks.NONE);
    }

    private static void dueNoContradiction(String... sentences) {
        checks.due("contradiction(0) of " + String.join(", ", sentences),
                Checks.book(sentences).contradiction(0), Checks.NONE);
    }

    private static void noContradictions() {
        dueNoContradiction("if age over 3 then fee is 1", "if age under 5 then fee is 1");
        dueNoContradiction("if age over 3 then fee is 1", "if age under 5 then rate is 2");
        dueNoContradiction("if age over 3 then fee is 1", "if age under 4 then fee is 2");
        dueNoContradiction("if age over 3 then fee is 1", "if age over 4 then fee is 2");
        dueNoContradiction("if age over 4 then fee is 1", "if age over 3 then fee is 2");
        dueNoContradiction("fee is 1", "fee is 2");
        dueNoContradiction("minor means age over 3", "senior means age under 5");
        dueNoContradiction("minor means age over 3", "if age under 5 then fee is 2");
    }

    private static void orderOfContradictions() {
        SentenceRules rules = Checks.book("rate is 1", "if size is 1 then fee is 1", "if age is 1 then fee is 2",
                "if count is 1 then fee is 3", "if income is 1 then fee is 2", "if birth over 2000-01-01 then fee is 1");
        int[] due = {102, 103, 104, 203, 205, 304, 305, 405};
        for (int i = 0; i < due.length; i++) {
            checks.due("contradiction(" + i + ")", rules.contradiction(i), due[i]);
        }
        checks.due("contradiction(8)", rules.contradiction(8), Checks.NONE);
    }
}
