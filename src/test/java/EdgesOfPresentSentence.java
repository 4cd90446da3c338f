/** Promises 1 to 7: a new object, word, number, date, back, clear, syntaxError. */
final class EdgesOfPresentSentence {
    private static final int MIN = Edges.MIN;
    private static final int MAX = Edges.MAX;

    private final Edges edges;

    EdgesOfPresentSentence(Edges edges) {
        this.edges = edges;
    }

    void run() {
        newObject();
        wordAppends();
        wordCodes();
        wordWithoutRoom();
        numberAppends();
        numberValues();
        numberWithoutRoom();
        dateAppends();
        dateYears();
        dateMonths();
        dateDays();
        dateWithoutRoom();
        backRemovesTheLast();
        backWithoutTokens();
        clearRemovesAll();
        clearCounts();
        indexOfTheFirstError();
        errorAtTheEnd();
        noError();
    }

    private void newObject() {
        edges.sentence(1, "Creates an empty book with an empty present sentence");
        SentenceRules rules = new SentenceRules();
        edges.due("sentences()", rules.sentences(), 0);
        edges.due("about(0)", rules.about(0), Checks.NO_SUCH_SENTENCE);
        edges.due("back()", rules.back(), Checks.NOT_POSSIBLE);
        edges.due("syntaxError()", rules.syntaxError(), 0);
        edges.due("tell()", rules.tell(), Checks.NOT_POSSIBLE);
        edges.due("clear()", rules.clear(), 0);
        edges.due("undo()", rules.undo(), Checks.NONE);
        for (int i = 0; i < 4; i++) {
            edges.due("answer(" + i + ")", rules.answer(i), Checks.NONE);
        }
        for (int i = 0; i < 6; i++) {
            edges.due("definition(" + i + ")", rules.definition(i), Checks.NONE);
        }
        for (int i = 0; i < 7; i++) {
            edges.due("fact(" + i + ")", rules.fact(i), i == 6 ? 36524 : 0);
        }
        // Objects have nothing in common.
        SentenceRules other = Checks.book("minor means age is 1", "fee is 1");
        other.setFact(0, 1);
        other.word(1);
        edges.due("sentences() beside another object", rules.sentences(), 0);
        edges.due("fact(0) beside another object", rules.fact(0), 0);
        edges.due("clear() beside another object", rules.clear(), 0);
        edges.due("undo() beside another object", rules.undo(), Checks.NONE);
    }

    private void wordAppends() {
        edges.sentence(2, "Appends a word to the present sentence");
        SentenceRules rules = new SentenceRules();
        edges.sentence(2, "Returns the number of tokens then");
        edges.due("word(22)", rules.word(22), 1);
        edges.due("word(4)", rules.word(4), 2);
        edges.due("number(3)", rules.number(3), 3);
        edges.due("word(8)", rules.word(8), 4);
        edges.due("date(2000, 1, 1)", rules.date(2000, 1, 1), 5);
        edges.due("word(9)", rules.word(9), 6);
        edges.due("syntaxError()", rules.syntaxError(), 6);
        // A word that cannot stand at its place is appended all the same.
        edges.due("word(9)", rules.word(9), 7);
        edges.due("syntaxError()", rules.syntaxError(), 6);
    }

    private void wordCodes() {
        edges.sentence(2, "code: code of the word, 0 to 25");
        SentenceRules rules = new SentenceRules();
        edges.due("word(0)", rules.word(0), 1);
        edges.due("word(25)", rules.word(25), 2);
        edges.sentence(2, "BAD_VALUE if code is out of range");
        for (int code : new int[] {-1, 26, MIN, MAX, -100002}) {
            edges.dueUnchanged(Scene.RICH, "word(" + code + ")", r -> r.word(code), Checks.BAD_VALUE);
            edges.dueUnchanged(Scene.FRESH, "word(" + code + ")", r -> r.word(code), Checks.BAD_VALUE);
        }
    }

    private void wordWithoutRoom() {
        edges.sentence(2, "FULL if there are 24 tokens");
        edges.due("word(8) as the 24th token", twentyThree().word(8), 24);
        edges.dueUnchanged(Scene.FULL_SENTENCE, "word(0)", r -> r.word(0), Checks.FULL);
        edges.dueUnchanged(Scene.FULL_SENTENCE, "word(25)", r -> r.word(25), Checks.FULL);
        edges.dueUnchanged(Scene.FULL_SENTENCE, "word(26)", r -> r.word(26), Checks.BAD_VALUE);
        edges.dueUnchanged(Scene.FULL_SENTENCE, "word(-1)", r -> r.word(-1), Checks.BAD_VALUE);
    }

    private static SentenceRules twentyThree() {
        SentenceRules rules = Scene.FULL_SENTENCE.make();
        rules.back();
        return rules;
    }

    private void numberAppends() {
        edges.sentence(3, "Appends a number to the present sentence");
        for (int value : new int[] {-9999, -1, 0, 1, 9999}) {
            SentenceRules rules = new SentenceRules();
            Checks.say(rules, "fee is");
            edges.due("number(" + value + ")", rules.number(value), 3);
            edges.due("tell()", rules.tell(), 0);
            edges.due("gives(0)", rules.gives(0), value);
        }
        edges.sentence(3, "Returns the number of tokens then");
        SentenceRules rules = new SentenceRules();
        for (int count = 1; count <= 24; count++) {
            edges.due("number(3)", rules.number(3), count);
        }
    }

    private void numberValues() {
        edges.sentence(3, "value: -9999 to 9999");
        SentenceRules rules = new SentenceRules();
        edges.due("number(-9999)", rules.number(-9999), 1);
        edges.due("number(9999)", rules.number(9999), 2);
        edges.sentence(3, "BAD_VALUE if value is out of range");
        for (int value : new int[] {-10000, 10000, MIN, MAX}) {
            edges.dueUnchanged(Scene.RICH, "number(" + value + ")", r -> r.number(value), Checks.BAD_VALUE);
        }
    }

    private void numberWithoutRoom() {
        edges.sentence(3, "FULL if there are 24 tokens");
        edges.due("number(3) as the 24th token", twentyThree().number(3), 24);
        edges.dueUnchanged(Scene.FULL_SENTENCE, "number(3)", r -> r.number(3), Checks.FULL);
        edges.dueUnchanged(Scene.FULL_SENTENCE, "number(-9999)", r -> r.number(-9999), Checks.FULL);
        edges.dueUnchanged(Scene.FULL_SENTENCE, "number(9999)", r -> r.number(9999), Checks.FULL);
        edges.dueUnchanged(Scene.FULL_SENTENCE, "number(-10000)", r -> r.number(-10000), Checks.BAD_VALUE);
        edges.dueUnchanged(Scene.FULL_SENTENCE, "number(10000)", r -> r.number(10000), Checks.BAD_VALUE);
    }

    private void dateAppends() {
        edges.sentence(4, "Appends a date to the present sentence");
        int[][] dates = {{1900, 1, 1, 0}, {1900, 2, 28, 58}, {2000, 2, 29, 36583}, {2000, 12, 31, 36889}, {2099, 12, 31, 73048}};
        for (int[] date : dates) {
            SentenceRules rules = new SentenceRules();
            Checks.say(rules, "fee is 1 from");
            edges.due("date", rules.date(date[0], date[1], date[2]), 5);
            edges.due("tell()", rules.tell(), 0);
            edges.due("least(0, 6)", rules.least(0, 6), date[3]);
        }
        edges.sentence(4, "Returns the number of tokens then");
        SentenceRules rules = new SentenceRules();
        for (int count = 1; count <= 24; count++) {
            edges.due("date(2000, 1, 1)", rules.date(2000, 1, 1), count);
        }
    }

    private void dueDate(int year, int month, int day, boolean exists) {
        String name = "date(" + year + ", " + month + ", " + day + ")";
        if (exists) {
            edges.due(name, new SentenceRules().date(year, month, day), 1);
        } else {
            edges.dueUnchanged(Scene.RICH, name, r -> r.date(year, month, day), Checks.BAD_VALUE);
        }
    }

    private void dateYears() {
        edges.sentence(4, "year: 1900 to 2099");
        dueDate(1900, 6, 15, true);
        dueDate(2099, 6, 15, true);
        dueDate(1899, 6, 15, false);
        dueDate(2100, 6, 15, false);
        dueDate(0, 6, 15, false);
        dueDate(MIN, 6, 15, false);
        dueDate(MAX, 6, 15, false);
    }

    private void dateMonths() {
        edges.sentence(4, "month: 1 to 12");
        dueDate(2000, 1, 15, true);
        dueDate(2000, 12, 15, true);
        dueDate(2000, 0, 15, false);
        dueDate(2000, 13, 15, false);
        dueDate(2000, MIN, 15, false);
        dueDate(2000, MAX, 15, false);
    }

    private void dateDays() {
        edges.sentence(4, "day: 1 to the number of days of the month");
        int[] days = {31, 28, 31, 30, 31, 30, 31, 31, 30, 31, 30, 31};
        for (int month = 1; month <= 12; month++) {
            for (int year : new int[] {1900, 1999, 2000, 2004}) {
                int last = month == 2 && year >= 2000 ? 29 : days[month - 1];
                dueDate(year, month, 1, true);
                dueDate(year, month, last, true);
                dueDate(year, month, last + 1, false);
            }
            dueDate(2001, month, 0, false);
        }
        edges.sentence(4, "BAD_VALUE if there is no such date");
        dueDate(2000, 1, MIN, false);
        dueDate(2000, 1, MAX, false);
        dueDate(2000, 1, -1, false);
        dueDate(1900, 2, 29, false);
        dueDate(2001, 2, 29, false);
        dueDate(2000, 2, 30, false);
    }

    private void dateWithoutRoom() {
        edges.sentence(4, "FULL if there are 24 tokens");
        edges.due("date(1900, 1, 1) as the 24th token", twentyThree().date(1900, 1, 1), 24);
        edges.dueUnchanged(Scene.FULL_SENTENCE, "date(1900, 1, 1)", r -> r.date(1900, 1, 1), Checks.FULL);
        edges.dueUnchanged(Scene.FULL_SENTENCE, "date(2099, 12, 31)", r -> r.date(2099, 12, 31), Checks.FULL);
        edges.dueUnchanged(Scene.FULL_SENTENCE, "date(2100, 1, 1)", r -> r.date(2100, 1, 1), Checks.BAD_VALUE);
        edges.dueUnchanged(Scene.FULL_SENTENCE, "date(2001, 2, 29)", r -> r.date(2001, 2, 29), Checks.BAD_VALUE);
    }

    private void backRemovesTheLast() {
        edges.sentence(5, "Removes the last token of the present sentence");
        SentenceRules rules = new SentenceRules();
        Checks.say(rules, "fee is 7 from 2000-01-01 until");
        edges.sentence(5, "Returns the number of tokens then");
        edges.due("back() of a word", rules.back(), 5);
        edges.due("syntaxError()", rules.syntaxError(), Checks.NONE);
        edges.due("back() of a date", rules.back(), 4);
        edges.due("syntaxError()", rules.syntaxError(), 4);
        edges.due("back()", rules.back(), 3);
        edges.due("back() of a number", rules.back(), 2);
        edges.due("number(8) in its place", rules.number(8), 3);
        edges.due("tell()", rules.tell(), 0);
        edges.dueText(rules, 0, "fee is 8.");
        // From 24 tokens to none.
        SentenceRules full = Scene.FULL_SENTENCE.make();
        for (int left = 23; left >= 0; left--) {
            edges.due("back()", full.back(), left);
        }
        edges.due("back()", full.back(), Checks.NOT_POSSIBLE);
        SentenceRules again = Scene.FULL_SENTENCE.make();
        again.back();
        edges.due("word(8) in the place that is free", again.word(8), 24);
        edges.due("word(8)", again.word(8), Checks.FULL);
    }

    private void backWithoutTokens() {
        edges.sentence(5, "NOT_POSSIBLE if there is no token");
        edges.dueUnchanged(Scene.FRESH, "back()", SentenceRules::back, Checks.NOT_POSSIBLE);
        edges.dueUnchanged(Scene.RICH.after(SentenceRules::clear), "back()", SentenceRules::back, Checks.NOT_POSSIBLE);
        SentenceRules one = new SentenceRules();
        one.word(0);
        edges.due("back() of the only token", one.back(), 0);
        edges.due("back()", one.back(), Checks.NOT_POSSIBLE);
        SentenceRules told = Checks.book("fee is 1");
        edges.due("back() behind tell()", told.back(), Checks.NOT_POSSIBLE);
    }

    private void clearRemovesAll() {
        edges.sentence(6, "Removes all tokens of the present sentence");
        SentenceRules rules = Scene.RICH.make();
        rules.clear();
        edges.due("syntaxError()", rules.syntaxError(), 0);
        edges.due("back()", rules.back(), Checks.NOT_POSSIBLE);
        edges.due("the first token behind clear()", rules.word(22), 1);
        edges.due("sentences()", rules.sentences(), 8);
        edges.due("fact(3)", rules.fact(3), -7);
    }

    private void clearCounts() {
        edges.sentence(6, "Returns the number of tokens that there were");
        SentenceRules rules = new SentenceRules();
        for (int count = 0; count <= 24; count++) {
            for (int i = 0; i < count; i++) {
                rules.word(i);
            }
            edges.due("clear() of " + count + " tokens", rules.clear(), count);
        }
        rules.word(1);
        edges.due("clear() of one", rules.clear(), 1);
        edges.dueUnchanged(Scene.FRESH, "clear() of none", SentenceRules::clear, 0);
    }

    private void indexOfTheFirstError() {
        edges.sentence(7, "Returns the index of the first token of the present sentence that is a syntax error");
        String[] tokens = Scene.LONGEST.split(" ");
        for (int wrong = 0; wrong < 24; wrong++) {
            // "then" behind "5" is in its place already: "means" can stand nowhere in a rule.
            String[] changed = tokens.clone();
            changed[wrong] = "means";
            SentenceRules rules = new SentenceRules();
            Checks.say(rules, String.join(" ", changed));
            edges.due("syntaxError() with token " + wrong + " wrong", rules.syntaxError(), wrong);
            edges.due("syntaxError() once more", rules.syntaxError(), wrong);
        }
        SentenceRules two = new SentenceRules();
        Checks.say(two, "fee means 1 means");
        edges.due("syntaxError() of two errors", two.syntaxError(), 1);
    }

    private void errorAtTheEnd() {
        edges.sentence(7, "the number of tokens if the end is one");
        edges.due("syntaxError() of no token", new SentenceRules().syntaxError(), 0);
        String[] tokens = Scene.LONGEST.split(" ");
        SentenceRules rules = new SentenceRules();
        for (int count = 1; count < 24; count++) {
            Checks.say(rules, tokens[count - 1]);
            edges.due("syntaxError() of " + count + " tokens", rules.syntaxError(), count);
        }
        Scene full = new Scene(() -> {
            SentenceRules incomplete = new SentenceRules();
            Checks.say(incomplete, Scene.LONGEST.replace("then fee is 7", "and age over 6"));
            return incomplete;
        });
        edges.dueUnchanged(full, "syntaxError() of 24 tokens without an end", SentenceRules::syntaxError, 24);
    }

    private void noError() {
        edges.sentence(7, "NONE if there is no syntax error");
        edges.dueUnchanged(Scene.FULL_SENTENCE, "syntaxError()", SentenceRules::syntaxError, Checks.NONE);
        edges.dueUnchanged(Scene.FULL_BOOK, "syntaxError()", SentenceRules::syntaxError, Checks.NONE);
        SentenceRules shortest = new SentenceRules();
        Checks.say(shortest, "fee is 1");
        edges.due("syntaxError()", shortest.syntaxError(), Checks.NONE);
    }
}
