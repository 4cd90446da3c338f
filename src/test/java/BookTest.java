/** Promises 8 to 11: tell, retract, setFact, undo. */
public final class BookTest {
    private static final Checks checks = new Checks();

    public static void main(String[] args) {
        tellAdds();
        tellRefuses();
        tellRefusesEmptyRegions();
        tellIntoFullBook();
        retractRemoves();
        retractRefuses();
        setFactSets();
        undoRestores();
        undoRestoresAFullBook();
        undoKeepsEight();
        errorsRecordNothing();
        onlyActsRecord();
        checks.end("BookTest");
    }

    private static void tellAdds() {
        SentenceRules rules = new SentenceRules();
        checks.due("tell()", Checks.tell(rules, "fee is 1"), 0);
        checks.due("clear()", rules.clear(), 0);
        checks.due("tell()", Checks.tell(rules, "small means size under 3"), 1);
        checks.due("tell()", Checks.tell(rules, "if small then fee is 2"), 2);
        checks.due("tell()", Checks.tell(rules, "large means small and count is 3"), 3);
        checks.due("tell()", Checks.tell(rules, "fee is 1"), 4);
        checks.due("sentences()", rules.sentences(), 5);
        checks.due("about(4)", rules.about(4), 0);
    }

    private static void dueNotPossible(SentenceRules rules, String sentence) {
        int before = rules.sentences();
        checks.due("tell() of '" + sentence + "'", Checks.tell(rules, sentence), Checks.NOT_POSSIBLE);
        checks.due("sentences()", rules.sentences(), before);
        checks.due("clear()", rules.clear(), sentence.split(" ").length);
    }

    private static void tellRefuses() {
        SentenceRules rules = Checks.book("small means size under 3");
        checks.due("tell() of nothing", rules.tell(), Checks.NOT_POSSIBLE);
        dueNotPossible(rules, "fee is");
        dueNotPossible(rules, "fee is 1 2");
        dueNotPossible(rules, "if large then fee is 1");
        dueNotPossible(rules, "if small and large then fee is 1");
        dueNotPossible(rules, "minor means large");
        dueNotPossible(rules, "minor means minor");
        dueNotPossible(rules, "small means size under 3");
        dueNotPossible(rules, "small means small");
        dueNotPossible(rules, "small means age is 1");
        checks.due("tell()", Checks.tell(rules, "minor means small"), 1);
        dueNotPossible(rules, "minor means age is 1");
        checks.due("tell()", Checks.tell(rules, "late means small"), 2);
        dueNotPossible(rules, "late means age is 1");
    }

    private static void tellRefusesEmptyRegions() {
        SentenceRules rules = Checks.book("small means size under 3");
        dueNotPossible(rules, "if age over 9999 then fee is 1");
        dueNotPossible(rules, "if income under -9999 then fee is 1");
        dueNotPossible(rules, "if birth over 2099-12-31 then fee is 1");
        dueNotPossible(rules, "if entry under 1900-01-01 then fee is 1");
        dueNotPossible(rules, "if age over 3 and age under 4 then fee is 1");
        dueNotPossible(rules, "if age is 3 and age is 4 then fee is 1");
        dueNotPossible(rules, "if size is 3 and small then fee is 1");
        dueNotPossible(rules, "if small and size not under 3 then fee is 1");
        dueNotPossible(rules, "large means small and size over 2");
        dueNotPossible(rules, "fee is 1 from 2000-01-02 until 2000-01-01");
        checks.due("tell()", Checks.tell(rules, "if age over 9998 then fee is 1"), 1);
        checks.due("tell()", Checks.tell(rules, "if age not over -9999 then fee is 1"), 2);
        checks.due("tell()", Checks.tell(rules, "if age over 3 and age under 5 then fee is 1"), 3);
        checks.due("tell()", Checks.tell(rules, "fee is 1 from 2000-01-01 until 2000-01-01"), 4);
        checks.due("tell()", Checks.tell(rules, "if size is 2 and small then fee is 1"), 5);
    }

    private static void tellIntoFullBook() {
        SentenceRules rules = new SentenceRules();
        for (int i = 0; i < 16; i++) {
            checks.due("tell()", Checks.tell(rules, "fee is " + i), i);
        }
        checks.due("tell()", Checks.tell(rules, "fee is 16"), Checks.FULL);
        checks.due("sentences()", rules.sentences(), 16);
        checks.due("clear()", rules.clear(), 3);
        checks.due("tell()", Checks.tell(rules, "fee is"), Checks.NOT_POSSIBLE);
        rules.clear();
        checks.due("tell()", Checks.tell(rules, "if minor then fee is 1"), Checks.NOT_POSSIBLE);
        rules.clear();
        checks.due("tell()", Checks.tell(rules, "if age over 9999 then fee is 1"), Checks.NOT_POSSIBLE);
        rules.clear();
        checks.due("retract(3)", rules.retract(3), 15);
        checks.due("tell()", Checks.tell(rules, "small means small"), Checks.NOT_POSSIBLE);
        rules.clear();
        checks.due("tell()", Checks.tell(rules, "small means size is 1"), 15);
        checks.due("tell()", Checks.tell(rules, "small means size is 1"), Checks.NOT_POSSIBLE);
        rules.clear();
        checks.due("tell()", Checks.tell(rules, "large means size is 1"), Checks.FULL);
        checks.due("gives(3)", rules.gives(3), 4);
        checks.due("gives(14)", rules.gives(14), 15);
    }

    private static void retractRemoves() {
        SentenceRules rules = Checks.book("fee is 1", "minor means age is 1", "rate is 3", "late means age is 2");
        checks.due("retract(0)", rules.retract(0), 3);
        checks.due("about(0)", rules.about(0), 10);
        checks.due("about(1)", rules.about(1), 1);
        checks.due("definition(0)", rules.definition(0), 0);
        checks.due("definition(5)", rules.definition(5), 2);
        checks.due("about(3)", rules.about(3), Checks.NO_SUCH_SENTENCE);
        checks.due("retract(2)", rules.retract(2), 2);
        checks.due("retract(0)", rules.retract(0), 1);
        checks.due("gives(0)", rules.gives(0), 3);
        checks.due("retract(0)", rules.retract(0), 0);
        checks.due("retract(0)", rules.retract(0), Checks.NO_SUCH_SENTENCE);
        checks.due("tell()", Checks.tell(rules, "minor means age is 5"), 0);
    }

    private static void retractRefuses() {
        SentenceRules rules = Checks.book("minor means age under 18", "early means minor",
                "if minor and early then fee is 1", "if minor then fee is 2");
        checks.due("retract(-1)", rules.retract(-1), Checks.NO_SUCH_SENTENCE);
        checks.due("retract(4)", rules.retract(4), Checks.NO_SUCH_SENTENCE);
        checks.due("retract(min)", rules.retract(Integer.MIN_VALUE), Checks.NO_SUCH_SENTENCE);
        checks.due("retract(0)", rules.retract(0), Checks.NOT_POSSIBLE);
        checks.due("retract(1)", rules.retract(1), Checks.NOT_POSSIBLE);
        checks.due("retract(2)", rules.retract(2), 3);
        checks.due("retract(0)", rules.retract(0), Checks.NOT_POSSIBLE);
        checks.due("retract(1)", rules.retract(1), 2);
        checks.due("retract(0)", rules.retract(0), Checks.NOT_POSSIBLE);
        checks.due("retract(1)", rules.retract(1), 1);
        checks.due("retract(0)", rules.retract(0), 0);
    }

    private static void setFactSets() {
        SentenceRules rules = new SentenceRules();
        int[] lowest = {-9999, -9999, -9999, -9999, 0, 0, 0};
        int[] highest = {9999, 9999, 9999, 9999, 73048, 73048, 73048};
        for (int fact = 0; fact < 7; fact++) {
            String call = "setFact(" + fact + ", ..)";
            checks.due(call, rules.setFact(fact, lowest[fact] - 1), Checks.BAD_VALUE);
            checks.due(call, rules.setFact(fact, highest[fact] + 1), Checks.BAD_VALUE);
            checks.due(call, rules.setFact(fact, lowest[fact]), fact == 6 ? 36524 : 0);
            checks.due(call, rules.setFact(fact, highest[fact]), lowest[fact]);
            checks.due("fact(" + fact + ")", rules.fact(fact), highest[fact]);
        }
        checks.due("setFact(-1, 0)", rules.setFact(-1, 0), Checks.BAD_VALUE);
        checks.due("setFact(7, 0)", rules.setFact(7, 0), Checks.BAD_VALUE);
        checks.due("setFact(max, 0)", rules.setFact(Integer.MAX_VALUE, 0), Checks.BAD_VALUE);
        checks.due("setFact(6, max)", rules.setFact(6, Integer.MAX_VALUE), Checks.BAD_VALUE);
    }

    private static void undoRestores() {
        SentenceRules rules = new SentenceRules();
        checks.due("undo()", rules.undo(), Checks.NONE);
        Checks.tell(rules, "fee is 1");
        rules.setFact(0, 5);
        Checks.say(rules, "rate is");
        rules.retract(0);
        rules.clear();
        checks.due("undo()", rules.undo(), 2);
        checks.due("sentences()", rules.sentences(), 1);
        checks.due("gives(0)", rules.gives(0), 1);
        checks.due("number(3)", rules.number(3), 3);
        checks.due("undo()", rules.undo(), 1);
        checks.due("fact(0)", rules.fact(0), 0);
        checks.due("clear()", rules.clear(), 0);
        checks.due("undo()", rules.undo(), 0);
        checks.due("sentences()", rules.sentences(), 0);
        // The sentence that was told is the present one again.
        checks.due("tell()", rules.tell(), 0);
        checks.dueText(rules, 0, "fee is 1.");
        checks.due("undo()", rules.undo(), 0);
        checks.due("undo()", rules.undo(), Checks.NONE);
        checks.due("clear()", rules.clear(), 3);
    }

    private static void undoRestoresAFullBook() {
        SentenceRules rules = new SentenceRules();
        for (int i = 0; i < 16; i++) {
            Checks.tell(rules, "fee is " + i);
        }
        rules.retract(15);
        rules.retract(7);
        rules.retract(0);
        Checks.tell(rules, "rate is 1");
        for (int left = 7; left > 4; left--) {
            rules.undo();
        }
        checks.due("undo()", rules.undo(), 4);
        checks.due("sentences()", rules.sentences(), 16);
        for (int i = 0; i < 16; i++) {
            checks.due("gives(" + i + ")", rules.gives(i), i);
            checks.due("about(" + i + ")", rules.about(i), 0);
        }
    }

    private static void undoKeepsEight() {
        SentenceRules rules = new SentenceRules();
        for (int value = 1; value <= 11; value++) {
            rules.setFact(0, value);
        }
        for (int left = 7; left >= 0; left--) {
            checks.due("undo()", rules.undo(), left);
            checks.due("fact(0)", rules.fact(0), left + 3);
        }
        checks.due("undo()", rules.undo(), Checks.NONE);
        checks.due("fact(0)", rules.fact(0), 3);
        rules.setFact(0, 20);
        rules.setFact(0, 21);
        checks.due("undo()", rules.undo(), 1);
        checks.due("fact(0)", rules.fact(0), 20);
        checks.due("undo()", rules.undo(), 0);
        checks.due("fact(0)", rules.fact(0), 3);
    }

    private static void errorsRecordNothing() {
        SentenceRules rules = Checks.book("minor means age is 1", "early means minor");
        rules.undo();
        rules.clear();
        rules.undo();
        rules.clear();
        Checks.tell(rules, "minor means age is 1");
        Checks.say(rules, "if late then fee is 1");
        checks.due("tell()", rules.tell(), Checks.NOT_POSSIBLE);
        checks.due("retract(5)", rules.retract(5), Checks.NO_SUCH_SENTENCE);
        checks.due("setFact(0, 10000)", rules.setFact(0, 10000), Checks.BAD_VALUE);
        checks.due("undo()", rules.undo(), 0);
        checks.due("undo()", rules.undo(), Checks.NONE);
        checks.due("clear()", rules.clear(), 5);
    }

    private static void onlyActsRecord() {
        SentenceRules rules = new SentenceRules();
        Checks.say(rules, "fee is 1");
        rules.back();
        rules.number(2);
        rules.clear();
        rules.syntaxError();
        rules.answerIf(0, 0, 3);
        checks.due("undo()", rules.undo(), Checks.NONE);
        // Setting a fact to the value that it has is an act as well.
        checks.due("setFact(0, 0)", rules.setFact(0, 0), 0);
        checks.due("undo()", rules.undo(), 0);
        // An undo can't be undone.
        checks.due("undo()", rules.undo(), Checks.NONE);
    }
}
