/** Promises 1 to 7: a new object, word, number, date, back, clear, syntaxError. */
public final class PresentSentenceTest {
    private static final Checks checks = new Checks();

    public static void main(String[] args) {
        newObject();
        words();
        numbers();
        dates();
        backAndClear();
        fullSentence();
        completeSentences();
        incompleteSentences();
        everyTokenAtEveryPlace();
        errorsAtTheFirstWrongToken();
        checks.end("PresentSentenceTest");
    }

    private static void newObject() {
        SentenceRules rules = new SentenceRules();
        checks.due("sentences()", rules.sentences(), 0);
        checks.due("clear()", rules.clear(), 0);
        checks.due("undo()", rules.undo(), Checks.NONE);
        for (int fact = 0; fact < 7; fact++) {
            checks.due("fact(" + fact + ")", rules.fact(fact), fact == 6 ? 36524 : 0);
        }
        for (int word = 0; word < 6; word++) {
            checks.due("definition(" + word + ")", rules.definition(word), Checks.NONE);
        }
        SentenceRules other = new SentenceRules();
        Checks.tell(other, "fee is 1");
        other.setFact(0, 5);
        checks.due("sentences() of another object", rules.sentences(), 0);
        checks.due("fact(0) of another object", rules.fact(0), 0);
    }

    private static void words() {
        SentenceRules rules = new SentenceRules();
        checks.due("word(0)", rules.word(0), 1);
        checks.due("word(25)", rules.word(25), 2);
        checks.due("word(25)", rules.word(25), 3);
        checks.due("word(26)", rules.word(26), Checks.BAD_VALUE);
        checks.due("word(-1)", rules.word(-1), Checks.BAD_VALUE);
        checks.due("word(min)", rules.word(Integer.MIN_VALUE), Checks.BAD_VALUE);
        checks.due("word(max)", rules.word(Integer.MAX_VALUE), Checks.BAD_VALUE);
        checks.due("clear()", rules.clear(), 3);
    }

    private static void numbers() {
        SentenceRules rules = new SentenceRules();
        checks.due("number(-9999)", rules.number(-9999), 1);
        checks.due("number(9999)", rules.number(9999), 2);
        checks.due("number(-10000)", rules.number(-10000), Checks.BAD_VALUE);
        checks.due("number(10000)", rules.number(10000), Checks.BAD_VALUE);
        checks.due("number(0)", rules.number(0), 3);
        checks.due("clear()", rules.clear(), 3);
    }

    private static void dates() {
        SentenceRules rules = new SentenceRules();
        checks.due("date(1900, 1, 1)", rules.date(1900, 1, 1), 1);
        checks.due("date(2099, 12, 31)", rules.date(2099, 12, 31), 2);
        checks.due("date(2000, 2, 29)", rules.date(2000, 2, 29), 3);
        int[][] wrong = {
            {1899, 12, 31}, {2100, 1, 1}, {2000, 0, 1}, {2000, 13, 1}, {2000, 1, 0}, {2000, 1, 32},
            {1900, 2, 29}, {2001, 2, 29}, {2000, 2, 30}, {2000, 4, 31}, {2000, 6, 31}, {2000, 9, 31},
            {2000, 11, 31}, {Integer.MIN_VALUE, 1, 1}, {2000, Integer.MAX_VALUE, 1}, {2000, 1, Integer.MIN_VALUE},
        };
        for (int[] date : wrong) {
            checks.due("date(" + date[0] + ", " + date[1] + ", " + date[2] + ")",
                    rules.date(date[0], date[1], date[2]), Checks.BAD_VALUE);
        }
        checks.due("clear()", rules.clear(), 3);
    }

    private static void backAndClear() {
        SentenceRules rules = new SentenceRules();
        checks.due("back()", rules.back(), Checks.NOT_POSSIBLE);
        Checks.say(rules, "fee is 7");
        checks.due("back()", rules.back(), 2);
        checks.due("number(8)", rules.number(8), 3);
        checks.due("tell()", rules.tell(), 0);
        checks.due("gives(0)", rules.gives(0), 8);
        checks.due("back()", rules.back(), Checks.NOT_POSSIBLE);
        Checks.say(rules, "if then");
        checks.due("back()", rules.back(), 1);
        checks.due("back()", rules.back(), 0);
        checks.due("back()", rules.back(), Checks.NOT_POSSIBLE);
        Checks.say(rules, "if then and");
        checks.due("clear()", rules.clear(), 3);
        checks.due("clear()", rules.clear(), 0);
        checks.due("word(1)", rules.word(1), 1);
    }

    private static void fullSentence() {
        SentenceRules rules = new SentenceRules();
        for (int i = 1; i <= 24; i++) {
            checks.due("word(7)", rules.word(7), i);
        }
        checks.due("word(7)", rules.word(7), Checks.FULL);
        checks.due("number(1)", rules.number(1), Checks.FULL);
        checks.due("date(2000, 1, 1)", rules.date(2000, 1, 1), Checks.FULL);
        checks.due("word(26)", rules.word(26), Checks.BAD_VALUE);
        checks.due("number(10000)", rules.number(10000), Checks.BAD_VALUE);
        checks.due("date(2001, 2, 29)", rules.date(2001, 2, 29), Checks.BAD_VALUE);
        checks.due("back()", rules.back(), 23);
        checks.due("number(1)", rules.number(1), 24);
        checks.due("clear()", rules.clear(), 24);
    }

    private static void completeSentences() {
        String[] complete = {
            "minor means age under 18",
            "late means early and small",
            "senior means birth not over 1940-12-31 and entry is 2000-01-01 and count not under -3",
            "fee is 0",
            "grade is -9999 from 2000-01-01",
            "limit is 9999 until 2000-01-01",
            "rate is 1 from 2001-01-01 until 2000-01-01",
            "if minor then fee is 1",
            "if size is 3 and large then rate is 1 from 1900-01-01 until 2099-12-31",
            "minor means minor",
        };
        for (String sentence : complete) {
            checks.dueError(sentence, Checks.NONE);
        }
    }

    private static void incompleteSentences() {
        String[] incomplete = {
            "", "if", "if age", "if age not", "if age not over", "if age over", "if age is", "if age is 1",
            "if age is 1 and", "if minor", "if minor then", "if minor then fee", "if minor then fee is",
            "minor", "minor means", "minor means age", "minor means small and", "fee", "fee is",
            "fee is 1 from", "fee is 1 until", "fee is 1 from 2000-01-01 until",
        };
        for (String sentence : incomplete) {
            checks.dueError(sentence, sentence.isEmpty() ? 0 : sentence.split(" ").length);
        }
    }

    /** After each beginning, just these tokens can stand. */
    private static void everyTokenAtEveryPlace() {
        String facts = "age income size count birth entry ";
        String definable = "minor senior small large early late ";
        String results = "fee rate limit grade ";
        String[][] places = {
            {"", "if " + definable + results},
            {"minor", "means"},
            {"minor means", facts + definable},
            {"minor means small", "and"},
            {"minor means small and", facts + definable},
            {"minor means count", "is not over under"},
            {"minor means count not", "over under"},
            {"minor means count is", "number"},
            {"minor means count not over", "number"},
            {"minor means entry under", "date"},
            {"minor means entry is 2000-01-01", "and"},
            {"if", facts + definable},
            {"if birth", "is not over under"},
            {"if birth not", "over under"},
            {"if birth is", "date"},
            {"if birth not under", "date"},
            {"if entry over", "date"},
            {"if age over", "number"},
            {"if income under", "number"},
            {"if size is", "number"},
            {"if count not under", "number"},
            {"if age is 1", "and then"},
            {"if late", "and then"},
            {"if late and", facts + definable},
            {"if late then", results},
            {"if late then grade", "is"},
            {"if late then grade is", "number"},
            {"if late then grade is 1", "from until"},
            {"fee", "is"},
            {"fee is", "number"},
            {"fee is 1", "from until"},
            {"fee is 1 from", "date"},
            {"fee is 1 from 2000-01-01", "until"},
            {"fee is 1 until", "date"},
            {"fee is 1 until 2000-01-01", ""},
            {"fee is 1 from 2000-01-01 until", "date"},
            {"fee is 1 from 2000-01-01 until 2000-01-01", ""},
        };
        String vocabulary = "if and then means is over under not from until " + facts + definable + results;
        for (String[] place : places) {
            for (String word : vocabulary.trim().split(" ")) {
                duePlace(place[0], word, (" " + place[1] + " ").contains(" " + word + " "));
            }
            duePlace(place[0], "5", place[1].equals("number"));
            duePlace(place[0], "2000-01-01", place[1].equals("date"));
        }
    }

    private static void duePlace(String beginning, String token, boolean canStand) {
        SentenceRules rules = new SentenceRules();
        int index = 0;
        if (!beginning.isEmpty()) {
            index = Checks.say(rules, beginning);
        }
        Checks.say(rules, token);
        boolean stands = rules.syntaxError() != index;
        checks.due("'" + token + "' can stand after '" + beginning + "':", stands ? 1 : 0, canStand ? 1 : 0);
    }

    private static void errorsAtTheFirstWrongToken() {
        checks.dueError("and and and", 0);
        checks.dueError("if age over 2000-01-01 then then", 3);
        checks.dueError("if birth over 3 then fee is 1", 3);
        checks.dueError("if age over 3 and birth is 2000-01-01 and size is 2000-01-01 then fee is 1", 11);
        checks.dueError("minor means small then fee is 1", 3);
        checks.dueError("fee is 1 until 2000-01-01 from 2000-01-01", 5);
        checks.dueError("fee is 1 from 2000-01-01 from 2000-01-01", 5);
        checks.dueError("fee is 1 and 2", 3);
        checks.dueError("fee is 1 from 3", 4);
        checks.dueError("5", 0);
        checks.dueError("2000-01-01", 0);
        // 24 tokens of a sentence that is not complete: the end is the error, limit or not.
        checks.dueError("if minor and minor and minor and minor and minor and minor and minor and minor and minor "
                + "and minor and minor and minor", 24);
    }
}
