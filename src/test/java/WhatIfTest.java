/** Promises 32 to 35: answerIf, nextChange, leastFor, matters. */
public final class WhatIfTest {
    private static final Checks checks = new Checks();

    public static void main(String[] args) {
        answersIf();
        nextChanges();
        nextChangeSeesEveryKindOfAnswer();
        nextChangeSkipsSameAnswers();
        manyBorders();
        leastValues();
        leastValuesOfDates();
        wrongArguments();
        mattering();
        matteringBesideTheFirst();
        nothingChanges();
        checks.end("WhatIfTest");
    }

    private static void answersIf() {
        SentenceRules rules = Checks.book("if age over 3 then fee is 1", "if age under 5 then fee is 2",
                "rate is 7 from 2000-01-02");
        checks.due("answerIf(0, 0, 3)", rules.answerIf(0, 0, 3), 2);
        checks.due("answerIf(0, 0, 4)", rules.answerIf(0, 0, 4), Checks.REFUSED);
        checks.due("answerIf(0, 0, 5)", rules.answerIf(0, 0, 5), 1);
        checks.due("answerIf(0, 1, 5)", rules.answerIf(0, 1, 5), 2);
        checks.due("answerIf(1, 6, 36524)", rules.answerIf(1, 6, 36524), Checks.NONE);
        checks.due("answerIf(1, 6, 36525)", rules.answerIf(1, 6, 36525), 7);
        checks.due("answerIf(1, 0, 0)", rules.answerIf(1, 0, 0), Checks.NONE);
        // One supposed value does not stay for the next call.
        checks.due("answerIf(0, 0, 5)", rules.answerIf(0, 0, 5), 1);
        checks.due("answerIf(0, 3, 9999)", rules.answerIf(0, 3, 9999), 2);
        checks.due("answer(0)", rules.answer(0), 2);
    }

    private static void nextChanges() {
        SentenceRules rules = Checks.book("if age over 3 and age under 7 then fee is 1");
        checks.due("nextChange(0, 0)", rules.nextChange(0, 0), 4);
        rules.setFact(0, 4);
        checks.due("nextChange(0, 0)", rules.nextChange(0, 0), 7);
        rules.setFact(0, 6);
        checks.due("nextChange(0, 0)", rules.nextChange(0, 0), 7);
        rules.setFact(0, 7);
        checks.due("nextChange(0, 0)", rules.nextChange(0, 0), Checks.NONE);
        rules.setFact(0, -9999);
        checks.due("nextChange(0, 0)", rules.nextChange(0, 0), 4);
        rules.setFact(0, 9999);
        checks.due("nextChange(0, 0)", rules.nextChange(0, 0), Checks.NONE);
        checks.due("nextChange(0, 1)", rules.nextChange(0, 1), Checks.NONE);
        checks.due("nextChange(1, 0)", rules.nextChange(1, 0), Checks.NONE);
        SentenceRules last = Checks.book("if age is 9999 then fee is 1", "fee is 2 until 2099-12-30",
                "if birth not under 2099-12-31 then rate is 4");
        checks.due("nextChange(0, 0)", last.nextChange(0, 0), 9999);
        checks.due("nextChange(0, 6)", last.nextChange(0, 6), 73048);
        checks.due("nextChange(1, 4)", last.nextChange(1, 4), 73048);
    }

    private static void nextChangeSeesEveryKindOfAnswer() {
        SentenceRules rules = Checks.book("if age over 3 then fee is 1", "if age over 5 and age under 9 then fee is 2",
                "if age under 8 and age over 6 then fee is 2", "if size is 0 then fee is 1");
        // Up to 3: the fee is 1 by size alone; 4 and 5: 1 by both; 6 to 8: refused; from 9: 1 again.
        checks.due("nextChange(0, 0)", rules.nextChange(0, 0), 6);
        rules.setFact(0, 6);
        checks.due("answer(0)", rules.answer(0), Checks.REFUSED);
        checks.due("nextChange(0, 0)", rules.nextChange(0, 0), 9);
        rules.setFact(2, 1);
        checks.due("answer(0)", rules.answer(0), 2);
        checks.due("nextChange(0, 0)", rules.nextChange(0, 0), 9);
        checks.due("nextChange(0, 2)", rules.nextChange(0, 2), Checks.NONE);
        rules.setFact(2, -1);
        checks.due("nextChange(0, 2)", rules.nextChange(0, 2), 0);
        SentenceRules refused = Checks.book("fee is 1 from 2000-01-03 until 2000-01-05",
                "if age is 0 then fee is 2 from 2000-01-05", "if size is 0 then fee is 3 from 2000-01-05");
        checks.due("nextChange(0, 6)", refused.nextChange(0, 6), 36526);
        refused.setFact(6, 36526);
        checks.due("nextChange(0, 6)", refused.nextChange(0, 6), 36528);
        refused.setFact(6, 36528);
        checks.due("nextChange(0, 6)", refused.nextChange(0, 6), Checks.NONE);
        // From no answer to a refused one, with nothing between them.
        SentenceRules straight = Checks.book("if age over 3 then fee is 1", "if age over 3 then fee is 2");
        checks.due("nextChange(0, 0)", straight.nextChange(0, 0), 4);
    }

    private static void nextChangeSkipsSameAnswers() {
        SentenceRules rules = Checks.book("fee is 1", "if age over 3 then fee is 1", "if age over 6 then fee is 1",
                "if age over 9 then fee is 2");
        checks.due("nextChange(0, 0)", rules.nextChange(0, 0), 10);
        rules.retract(3);
        checks.due("nextChange(0, 0)", rules.nextChange(0, 0), Checks.NONE);
    }

    /** Sixteen rules, one within the other, of which only the innermost and the end give other answers. */
    private static void manyBorders() {
        SentenceRules rules = new SentenceRules();
        for (int i = 0; i < 16; i++) {
            Checks.tell(rules, "if age over " + i + " and age under " + (100 - i) + " then fee is "
                    + (i == 15 ? 2 : 1));
        }
        rules.setFact(0, 1);
        checks.due("nextChange(0, 0)", rules.nextChange(0, 0), 16);
        checks.due("leastFor(0, 0, 2)", rules.leastFor(0, 0, 2), 16);
        rules.retract(15);
        Checks.tell(rules, "if age over 50 and age under 60 then fee is 1");
        checks.due("nextChange(0, 0)", rules.nextChange(0, 0), 100);
        checks.due("leastFor(0, 0, 1)", rules.leastFor(0, 0, 1), 1);
        checks.due("leastFor(0, 0, 2)", rules.leastFor(0, 0, 2), Checks.NONE);
        rules.retract(0);
        Checks.tell(rules, "if age over 98 and age under 100 then fee is 2");
        checks.due("leastFor(0, 0, 2)", rules.leastFor(0, 0, 2), 99);
        checks.due("nextChange(0, 0)", rules.nextChange(0, 0), 2);
    }

    private static void leastValues() {
        SentenceRules rules = Checks.book("if age over 3 and age under 7 then fee is 1", "if age over 6 then fee is 2",
                "if size is 4 then fee is 1", "if age not over -9999 then rate is 9", "if age is 5 then fee is 3");
        checks.due("leastFor(0, 0, 1)", rules.leastFor(0, 0, 1), 4);
        checks.due("leastFor(0, 0, 2)", rules.leastFor(0, 0, 2), 7);
        checks.due("leastFor(0, 0, 3)", rules.leastFor(0, 0, 3), 5);
        checks.due("leastFor(0, 0, 4)", rules.leastFor(0, 0, 4), Checks.NONE);
        checks.due("leastFor(1, 0, 9)", rules.leastFor(1, 0, 9), -9999);
        checks.due("leastFor(0, 2, 1)", rules.leastFor(0, 2, 1), 4);
        rules.setFact(2, 4);
        checks.due("leastFor(0, 0, 1)", rules.leastFor(0, 0, 1), -9999);
        checks.due("leastFor(0, 0, 2)", rules.leastFor(0, 0, 2), Checks.NONE);
        // The least value may be the present one, or below it.
        rules.setFact(2, 0);
        rules.setFact(0, 9000);
        checks.due("leastFor(0, 0, 2)", rules.leastFor(0, 0, 2), 7);
        checks.due("leastFor(0, 1, 2)", rules.leastFor(0, 1, 2), -9999);
        SentenceRules none = new SentenceRules();
        checks.due("leastFor(0, 0, -9999)", none.leastFor(0, 0, -9999), Checks.NONE);
        checks.due("leastFor(0, 0, 9999)", none.leastFor(0, 0, 9999), Checks.NONE);
        SentenceRules last = Checks.book("if count is 9999 then grade is -9999",
                "if count under 9999 then grade is 9999");
        checks.due("leastFor(3, 3, -9999)", last.leastFor(3, 3, -9999), 9999);
        checks.due("leastFor(3, 3, 9999)", last.leastFor(3, 3, 9999), -9999);
    }

    private static void leastValuesOfDates() {
        SentenceRules rules = Checks.book("fee is 1", "fee is 2 from 2000-01-01", "fee is 3 until 1900-01-01",
                "fee is 4 from 2099-12-31");
        checks.due("leastFor(0, 6, 1)", rules.leastFor(0, 6, 1), 1);
        checks.due("leastFor(0, 6, 2)", rules.leastFor(0, 6, 2), 36524);
        checks.due("leastFor(0, 6, 3)", rules.leastFor(0, 6, 3), 0);
        checks.due("leastFor(0, 6, 4)", rules.leastFor(0, 6, 4), 73048);
        checks.due("leastFor(0, 5, 2)", rules.leastFor(0, 5, 2), 0);
        checks.due("leastFor(0, 4, 1)", rules.leastFor(0, 4, 1), Checks.NONE);
    }

    private static void wrongArguments() {
        SentenceRules rules = Checks.book("fee is 1");
        int[] wrongResults = {-1, 4, Integer.MIN_VALUE, Integer.MAX_VALUE};
        for (int result : wrongResults) {
            checks.due("answerIf(" + result + ", 0, 0)", rules.answerIf(result, 0, 0), Checks.BAD_VALUE);
            checks.due("nextChange(" + result + ", 0)", rules.nextChange(result, 0), Checks.BAD_VALUE);
            checks.due("leastFor(" + result + ", 0, 1)", rules.leastFor(result, 0, 1), Checks.BAD_VALUE);
        }
        int[] wrongFacts = {-1, 7, Integer.MIN_VALUE, Integer.MAX_VALUE};
        for (int fact : wrongFacts) {
            checks.due("answerIf(0, " + fact + ", 0)", rules.answerIf(0, fact, 0), Checks.BAD_VALUE);
            checks.due("nextChange(0, " + fact + ")", rules.nextChange(0, fact), Checks.BAD_VALUE);
            checks.due("leastFor(0, " + fact + ", 1)", rules.leastFor(0, fact, 1), Checks.BAD_VALUE);
        }
        for (int fact = 0; fact < 7; fact++) {
            int lowest = fact < 4 ? -9999 : 0;
            int highest = fact < 4 ? 9999 : 73048;
            checks.due("answerIf below", rules.answerIf(0, fact, lowest - 1), Checks.BAD_VALUE);
            checks.due("answerIf above", rules.answerIf(0, fact, highest + 1), Checks.BAD_VALUE);
            checks.due("answerIf lowest", rules.answerIf(0, fact, lowest), 1);
            checks.due("answerIf highest", rules.answerIf(0, fact, highest), 1);
        }
        int[] wrongNumbers = {-10000, 10000, Checks.NONE, Checks.REFUSED, Integer.MAX_VALUE};
        for (int wanted : wrongNumbers) {
            checks.due("leastFor(3, 6, " + wanted + ")", rules.leastFor(3, 6, wanted), Checks.BAD_VALUE);
        }
    }

    private static void mattering() {
        SentenceRules rules = Checks.book("small means size is 0", "fee is 1", "if small then fee is 2",
                "if age is 0 then fee is 2", "rate is 5", "if small then rate is 5", "limit is 1", "limit is 2",
                "limit is 3", "grade is 1", "grade is 2", "if age is 1 then grade is 7");
        int[] due = {0, 0, 0, 0, 0, 0, 0, 0, 0, 1, 1, 0};
        for (int i = 0; i < due.length; i++) {
            checks.due("matters(" + i + ")", rules.matters(i), due[i]);
        }
        rules.retract(3);
        checks.due("matters(2)", rules.matters(2), 1);
        checks.due("matters(1)", rules.matters(1), 0);
        rules.retract(2);
        checks.due("matters(1)", rules.matters(1), 1);
        checks.due("matters(10)", rules.matters(10), Checks.NO_SUCH_SENTENCE);
        checks.due("matters(-1)", rules.matters(-1), Checks.NO_SUCH_SENTENCE);
        checks.due("matters(min)", rules.matters(Integer.MIN_VALUE), Checks.NO_SUCH_SENTENCE);
        checks.due("sentences()", rules.sentences(), 10);
    }

    /** The answer now is that of the whole book, whichever sentence is asked about. */
    private static void matteringBesideTheFirst() {
        SentenceRules rules = Checks.book("if size is 0 then fee is 1", "fee is 2", "if age is 0 then fee is 1");
        checks.due("matters(0)", rules.matters(0), 0);
        checks.due("matters(1)", rules.matters(1), 0);
        checks.due("matters(2)", rules.matters(2), 0);
        rules.retract(2);
        checks.due("matters(0)", rules.matters(0), 1);
        checks.due("matters(1)", rules.matters(1), 0);
    }

    private static void nothingChanges() {
        SentenceRules rules = Checks.book("if age over 3 then fee is 1");
        Checks.say(rules, "rate is");
        rules.answerIf(0, 0, 9);
        rules.nextChange(0, 0);
        rules.leastFor(0, 0, 1);
        rules.matters(0);
        checks.due("fact(0)", rules.fact(0), 0);
        checks.due("sentences()", rules.sentences(), 1);
        checks.due("answer(0)", rules.answer(0), Checks.NONE);
        checks.due("clear()", rules.clear(), 2);
        checks.due("undo()", rules.undo(), 0);
        checks.due("undo()", rules.undo(), Checks.NONE);
    }
}
