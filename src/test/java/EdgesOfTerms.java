/** The terms, from "What it is" to the sentences: dates, facts, results, tokens, forms, syntax errors. */
final class EdgesOfTerms {
    private static final int TERMS = Edges.TERMS;

    private final Edges edges;

    EdgesOfTerms(Edges edges) {
        this.edges = edges;
    }

    void run() {
        wholeBook();
        numbersAreIntegers();
        calls512();
        laterCalls();
        firstAndLastDay();
        leapYears();
        facts();
        results();
        definableWords();
        tokensOfASentence();
        kindsOfTokens();
        vocabulary();
        definitionForm();
        ruleForms();
        oneOrMoreConditions();
        wordConditions();
        isConditions();
        overAndUnderConditions();
        kindsOfValues();
        conclusions();
        firstTokenThatCannotStand();
        endOfAnIncompleteSentence();
        limitDoesNotMatter();
    }

    private void wholeBook() {
        edges.sentence(TERMS, "A book of rules in controlled sentences");
        edges.sentence(TERMS, "sentences are put together from words, numbers and dates, read, and kept");
        SentenceRules rules = new SentenceRules();
        edges.due("a rule of words, numbers and a date is told", Checks.tell(rules, "fee is 3 from 2000-01-01"), 0);
        edges.dueText(rules, 0, "fee is 3 from 2000-01-01.");
        edges.sentence(TERMS, "they define words or give values to results");
        edges.due("a definition is told", Checks.tell(rules, "minor means age under 18"), 1);
        edges.due("holds(0)", rules.holds(0), 1);
        edges.due("answer(0)", rules.answer(0), 3);
        edges.sentence(TERMS, "More specific rules override others, contradicting ones are refused, "
                + "and every answer tells the sentences from which it follows");
        SentenceRules override = Checks.book("minor means age under 18", "fee is 3", "if minor then fee is 4");
        edges.due("answer(0) of the more specific rule", override.answer(0), 4);
        edges.due("reason(0, 0)", override.reason(0, 0), 2);
        Checks.tell(override, "if size is 0 then fee is 5");
        edges.due("answer(0) of contradicting rules", override.answer(0), Checks.REFUSED);
        edges.due("reason(0, 0)", override.reason(0, 0), 2);
        edges.due("reason(0, 1)", override.reason(0, 1), 3);
    }

    private void numbersAreIntegers() {
        edges.sentence(TERMS, "All numbers are integers");
        int methods = 0;
        for (java.lang.reflect.Method method : SentenceRules.class.getMethods()) {
            if (method.getDeclaringClass() == SentenceRules.class) {
                methods++;
                edges.due(method + " answers an int", method.getReturnType() == int.class ? 1 : 0, 1);
                for (Class<?> type : method.getParameterTypes()) {
                    edges.due(method + " takes ints", type == int.class ? 1 : 0, 1);
                }
            }
        }
        edges.due("the number of methods", methods, 34);
    }

    private void calls512() {
        edges.sentence(TERMS, "An object is used for at most 512 calls after it has been made");
        SentenceRules rules = new SentenceRules();
        for (int i = 0; i < 16; i++) {
            Checks.tell(rules, "fee is " + i);
        }
        for (int call = 65; call <= 502; call++) {
            edges.due("call " + call + ", setFact", rules.setFact(0, call), call == 65 ? 0 : call - 1);
        }
        for (int left = 7; left >= 0; left--) {
            edges.due("call " + (510 - left) + ", undo()", rules.undo(), left);
        }
        edges.due("call 511, undo()", rules.undo(), Checks.NONE);
        edges.due("call 512, fact(0)", rules.fact(0), 494);
        SentenceRules telling = new SentenceRules();
        Checks.say(telling, Scene.LONGEST);
        for (int call = 25; call < 512; call += 2) {
            edges.due("call " + call + ", tell()", telling.tell(), 0);
            edges.due("call " + (call + 1) + ", undo()", telling.undo(), 0);
        }
    }

    /** Free is what they answer; that they end is due by LANGUAGE.md, rule 7. */
    private void laterCalls() {
        edges.sentence(TERMS, "what later calls answer is free");
        SentenceRules rules = new SentenceRules();
        int rounds = 0;
        while (rounds < 100) {
            Checks.say(rules, "fee is 1");
            rules.tell();
            rules.setFact(0, rounds);
            rules.answer(0);
            rules.contradiction(0);
            rules.leastFor(0, 0, 9);
            rules.character(0, 0);
            rules.retract(rounds % 20);
            rules.undo();
            rounds++;
        }
        edges.due("the rounds of calls that ended", rounds, 100);
    }

    private void firstAndLastDay() {
        edges.sentence(TERMS, "Dates are days of the Gregorian calendar from January 1, 1900 (day number 0)");
        SentenceRules rules = new SentenceRules();
        edges.due("dayNumber(1900, 1, 1)", rules.dayNumber(1900, 1, 1), 0);
        edges.due("dateOf(0)", rules.dateOf(0), 19000101);
        edges.due("dayNumber(1899, 12, 31)", rules.dayNumber(1899, 12, 31), Checks.BAD_VALUE);
        edges.due("dateOf(-1)", rules.dateOf(-1), Checks.BAD_VALUE);
        edges.due("date(1900, 1, 1)", rules.date(1900, 1, 1), 1);
        edges.due("date(1899, 12, 31)", rules.date(1899, 12, 31), Checks.BAD_VALUE);
        edges.sentence(TERMS, "to December 31, 2099 (day number 73048)");
        edges.due("dayNumber(2099, 12, 31)", rules.dayNumber(2099, 12, 31), 73048);
        edges.due("dateOf(73048)", rules.dateOf(73048), 20991231);
        edges.due("dayNumber(2100, 1, 1)", rules.dayNumber(2100, 1, 1), Checks.BAD_VALUE);
        edges.due("dateOf(73049)", rules.dateOf(73049), Checks.BAD_VALUE);
        edges.due("date(2099, 12, 31)", rules.date(2099, 12, 31), 2);
        edges.due("date(2100, 1, 1)", rules.date(2100, 1, 1), Checks.BAD_VALUE);
    }

    private void leapYears() {
        edges.sentence(TERMS, "A year is a leap year if it is divisible by 4 but not by 100, or if it is divisible by 400");
        SentenceRules rules = new SentenceRules();
        SentenceRules present = new SentenceRules();
        int first = 0;
        for (int year = 1900; year <= 2099; year++) {
            boolean leap = year != 1900 && year % 4 == 0;
            String name = year + ", 2, 29)";
            edges.due("dayNumber(" + name, rules.dayNumber(year, 2, 29), leap ? first + 59 : Checks.BAD_VALUE);
            present.clear();
            edges.due("date(" + name, present.date(year, 2, 29), leap ? 1 : Checks.BAD_VALUE);
            edges.due("dateOf 59 days behind the first of " + year, rules.dateOf(first + 59),
                    10000 * year + (leap ? 229 : 301));
            first += leap ? 366 : 365;
        }
        edges.due("the days of all years", first, 73049);
    }

    private void facts() {
        edges.sentence(TERMS, "There are seven facts");
        SentenceRules rules = new SentenceRules();
        edges.due("fact(-1)", rules.fact(-1), Checks.BAD_VALUE);
        edges.due("fact(6)", rules.fact(6), 36524);
        edges.due("fact(7)", rules.fact(7), Checks.BAD_VALUE);
        edges.sentence(TERMS, "0 age, 1 income, 2 size and 3 count, which are numbers from -9999 to 9999, at first 0");
        for (int fact = 0; fact <= 3; fact++) {
            edges.due("fact(" + fact + ")", rules.fact(fact), 0);
            dueLimits(fact, -9999, 9999);
        }
        edges.sentence(TERMS, "4 birth and 5 entry, which are dates, at first day number 0");
        for (int fact = 4; fact <= 5; fact++) {
            edges.due("fact(" + fact + ")", rules.fact(fact), 0);
            dueLimits(fact, 0, 73048);
        }
        edges.sentence(TERMS, "and 6 today, a date, at first day number 36524");
        edges.due("fact(6)", rules.fact(6), 36524);
        edges.due("dateOf(36524)", rules.dateOf(36524), 20000101);
        dueLimits(6, 0, 73048);
    }

    private void dueLimits(int fact, int lowest, int highest) {
        SentenceRules rules = new SentenceRules();
        String call = "setFact(" + fact + ", ..)";
        int first = rules.fact(fact);
        edges.due(call + " too low", rules.setFact(fact, lowest - 1), Checks.BAD_VALUE);
        edges.due(call + " too high", rules.setFact(fact, highest + 1), Checks.BAD_VALUE);
        edges.due(call + " to the lowest", rules.setFact(fact, lowest), first);
        edges.due(call + " to the highest", rules.setFact(fact, highest), lowest);
        edges.due("fact(" + fact + ")", rules.fact(fact), highest);
        // Only the fact with this number is set.
        for (int other = 0; other < 7; other++) {
            if (other != fact) {
                edges.due("fact(" + other + ")", rules.fact(other), other == 6 ? 36524 : 0);
            }
        }
        Checks.tell(rules, "fee is 1");
        edges.due("least(0, " + fact + ")", rules.least(0, fact), lowest);
        edges.due("greatest(0, " + fact + ")", rules.greatest(0, fact), highest);
    }

    private void results() {
        edges.sentence(TERMS, "There are four results");
        SentenceRules rules = Checks.book("fee is 5", "rate is 6", "limit is 7", "grade is 8");
        edges.due("answer(-1)", rules.answer(-1), Checks.BAD_VALUE);
        edges.due("answer(4)", rules.answer(4), Checks.BAD_VALUE);
        edges.sentence(TERMS, "0 fee, 1 rate, 2 limit, 3 grade");
        for (int result = 0; result < 4; result++) {
            edges.due("about(" + result + ")", rules.about(result), result);
            edges.due("answer(" + result + ")", rules.answer(result), 5 + result);
        }
    }

    private void definableWords() {
        edges.sentence(TERMS, "There are six words that can be defined");
        SentenceRules rules = new SentenceRules();
        edges.due("definition(-1)", rules.definition(-1), Checks.BAD_VALUE);
        edges.due("definition(6)", rules.definition(6), Checks.BAD_VALUE);
        for (int code = 0; code <= 25; code++) {
            SentenceRules defining = new SentenceRules();
            defining.word(code);
            Checks.say(defining, "means age is 1");
            boolean definable = code >= 16 && code <= 21;
            edges.due("tell() of a definition of word " + code, defining.tell(), definable ? 0 : Checks.NOT_POSSIBLE);
        }
        edges.sentence(TERMS, "0 minor, 1 senior, 2 small, 3 large, 4 early, 5 late");
        String[] words = {"minor", "senior", "small", "large", "early", "late"};
        for (int i = 0; i < 6; i++) {
            edges.due("definition(" + i + ")", rules.definition(i), Checks.NONE);
            edges.due("tell()", Checks.tell(rules, words[i] + " means age is " + i), i);
            edges.due("definition(" + i + ")", rules.definition(i), i);
            edges.due("about(" + i + ")", rules.about(i), 10 + i);
        }
    }

    private void tokensOfASentence() {
        edges.sentence(TERMS, "A sentence is a sequence of at most 24 tokens");
        SentenceRules rules = new SentenceRules();
        edges.due("the last token", Checks.say(rules, Scene.LONGEST), 24);
        edges.due("a token more", rules.word(8), Checks.FULL);
        edges.due("tell()", rules.tell(), 0);
        edges.dueText(rules, 0, Scene.LONGEST + ".");
        edges.due("least(0, 0)", rules.least(0, 0), 6);
        edges.due("gives(0)", rules.gives(0), 7);
        // All kinds of tokens fill the same 24 places.
        SentenceRules mixed = new SentenceRules();
        for (int count = 1; count <= 24; count++) {
            edges.due("token " + count, count % 3 == 0 ? mixed.word(1) : count % 3 == 1 ? mixed.number(1)
                    : mixed.date(2000, 1, 1), count);
        }
        edges.due("word(1)", mixed.word(1), Checks.FULL);
        edges.due("number(1)", mixed.number(1), Checks.FULL);
        edges.due("date(2000, 1, 1)", mixed.date(2000, 1, 1), Checks.FULL);
        edges.due("clear()", mixed.clear(), 24);
    }

    private void kindsOfTokens() {
        edges.sentence(TERMS, "A token is a word of the vocabulary, a number, or a date");
        // A number or a date with the code of a word is not that word, and a date is not its day number.
        SentenceRules numbers = new SentenceRules();
        numbers.number(22);
        edges.due("syntaxError() of a number that is a word's code", numbers.syntaxError(), 0);
        SentenceRules dates = new SentenceRules();
        dates.date(1900, 1, 23);
        edges.due("syntaxError() of a date with a word's code", dates.syntaxError(), 0);
        SentenceRules values = new SentenceRules();
        Checks.say(values, "fee is 1900-01-02");
        edges.due("syntaxError() of a date for a number", values.syntaxError(), 2);
        SentenceRules words = new SentenceRules();
        Checks.say(words, "fee is fee");
        edges.due("syntaxError() of a word for a number", words.syntaxError(), 2);
        SentenceRules days = new SentenceRules();
        Checks.say(days, "fee is 1 from 36524");
        edges.due("syntaxError() of a number for a date", days.syntaxError(), 4);
    }

    private void vocabulary() {
        edges.sentence(TERMS, "The vocabulary has 26 words with the following codes");
        SentenceRules rules = new SentenceRules();
        edges.due("word(-1)", rules.word(-1), Checks.BAD_VALUE);
        edges.due("word(0)", rules.word(0), 1);
        edges.due("word(25)", rules.word(25), 2);
        edges.due("word(26)", rules.word(26), Checks.BAD_VALUE);
        edges.sentence(TERMS, "0 if, 1 and, 2 then, 3 means, 4 is, 5 over, 6 under, 7 not, 8 from, 9 until");
        dueWords(new int[] {16, 3, 10, 7, 5, -1, 1, 10, 7, 6, -1}, "minor means age not over 5 and age not under 5.");
        dueWords(new int[] {0, 10, 4, -1, 2, 22, 4, -1, 8, -2, 9, -2},
                "if age is 5 then fee is 5 from 2000-01-01 until 2000-01-01.");
        edges.sentence(TERMS, "10 age, 11 income, 12 size, 13 count, 14 birth, 15 entry");
        for (int code = 10; code <= 15; code++) {
            dueWords(new int[] {0, code, 4, code < 14 ? -1 : -2, 2, 22, 4, -1}, "if " + Edges.FACT_WORDS[code - 10]
                    + " is " + (code < 14 ? "5" : "2000-01-01") + " then fee is 5.");
        }
        edges.sentence(TERMS, "16 minor, 17 senior, 18 small, 19 large, 20 early, 21 late");
        String[] words = {"minor", "senior", "small", "large", "early", "late"};
        for (int code = 16; code <= 21; code++) {
            dueWords(new int[] {code, 3, 10, 4, -1}, words[code - 16] + " means age is 5.");
        }
        edges.sentence(TERMS, "22 fee, 23 rate, 24 limit, 25 grade");
        String[] names = {"fee", "rate", "limit", "grade"};
        for (int code = 22; code <= 25; code++) {
            dueWords(new int[] {code, 4, -1}, names[code - 22] + " is 5.");
        }
    }

    /** Tells the words with these codes, -1 for the number 5 and -2 for January 1, 2000. */
    private void dueWords(int[] codes, String want) {
        SentenceRules rules = new SentenceRules();
        for (int code : codes) {
            if (code >= 0) {
                rules.word(code);
            } else if (code == -1) {
                rules.number(5);
            } else {
                rules.date(2000, 1, 1);
            }
        }
        edges.due("tell() of '" + want + "'", rules.tell(), 0);
        edges.dueText(rules, 0, want);
    }

    private void dueError(String sentence, int want) {
        SentenceRules rules = new SentenceRules();
        if (!sentence.isEmpty()) {
            Checks.say(rules, sentence);
        }
        edges.due("syntaxError() of '" + sentence + "'", rules.syntaxError(), want);
    }

    private void definitionForm() {
        edges.sentence(TERMS, "A sentence has one of these forms");
        dueError("", 0);
        dueError("age is 1", 0);
        dueError("means age is 1", 0);
        edges.sentence(TERMS, "a definition");
        edges.sentence(TERMS, "a definable word, \"means\", conditions");
        dueError("minor means age is 1", Checks.NONE);
        dueError("late means minor and late", Checks.NONE);
        dueError("minor is age is 1", 1);
        dueError("minor means", 2);
        dueError("minor means age is 1 then fee is 1", 5);
        dueError("minor means age is 1 from 2000-01-01", 5);
        dueError("minor means fee is 1", 2);
        dueError("fee means age is 1", 1);
        dueError("age means age is 1", 0);
    }

    private void ruleForms() {
        edges.sentence(TERMS, "a rule");
        edges.sentence(TERMS, "\"if\", conditions, \"then\", a conclusion");
        dueError("if minor then fee is 1", Checks.NONE);
        dueError("if then fee is 1", 1);
        dueError("if minor fee is 1", 2);
        dueError("if minor then", 3);
        dueError("if minor then minor", 3);
        dueError("if minor then if minor then fee is 1", 3);
        dueError("if minor then fee is 1 and rate is 2", 6);
        dueError("if fee is 1 then rate is 1", 1);
        edges.sentence(TERMS, "or only a conclusion");
        dueError("fee is 1", Checks.NONE);
        dueError("then fee is 1", 0);
        dueError("fee is 1 if minor", 3);
        dueError("fee is 1 then", 3);
    }

    private void oneOrMoreConditions() {
        edges.sentence(TERMS, "Conditions are one or more conditions with \"and\" between them");
        dueError("if minor then fee is 1", Checks.NONE);
        dueError("if minor and late then fee is 1", Checks.NONE);
        dueError("if minor and late and minor and age is 3 and age is 3 then fee is 1", Checks.NONE);
        dueError("minor means late and late and late and late and late and late and late and late and late "
                + "and late and late", Checks.NONE);
        dueError("if then fee is 1", 1);
        dueError("if and minor then fee is 1", 1);
        dueError("if minor late then fee is 1", 2);
        dueError("if minor and and late then fee is 1", 3);
        dueError("if minor and then fee is 1", 3);
        dueError("minor means small late", 3);
        dueError("minor means small and", 4);
    }

    private void wordConditions() {
        edges.sentence(TERMS, "A condition is a definable word");
        for (String word : new String[] {"minor", "senior", "small", "large", "early", "late"}) {
            dueError("if " + word + " then fee is 1", Checks.NONE);
            dueError("if not " + word + " then fee is 1", 1);
            dueError("if " + word + " is 1 then fee is 1", 2);
        }
        dueError("if grade then fee is 1", 1);
        dueError("if is then fee is 1", 1);
    }

    private void isConditions() {
        edges.sentence(TERMS, "or a fact (age to entry), \"is\" and a value");
        for (int fact = 0; fact < 6; fact++) {
            String start = "if " + Edges.FACT_WORDS[fact] + " ";
            String value = Edges.said(fact, 5);
            dueError(start + "is " + value + " then fee is 1", Checks.NONE);
            dueError(start + "not is " + value + " then fee is 1", 3);
            dueError(start + "is not " + value + " then fee is 1", 3);
            dueError(start + value + " then fee is 1", 2);
            dueError(start + "then fee is 1", 2);
            dueError(start + "is over " + value + " then fee is 1", 3);
            dueError(start + "is " + value + " " + value + " then fee is 1", 4);
        }
        dueError("if fee is 5 then fee is 1", 1);
    }

    private void overAndUnderConditions() {
        edges.sentence(TERMS, "or a fact, an optional \"not\", then \"over\" or \"under\", then a value");
        for (int fact = 0; fact < 6; fact++) {
            String start = "if " + Edges.FACT_WORDS[fact] + " ";
            String end = " " + Edges.said(fact, 5) + " then fee is 1";
            dueError(start + "over" + end, Checks.NONE);
            dueError(start + "under" + end, Checks.NONE);
            dueError(start + "not over" + end, Checks.NONE);
            dueError(start + "not under" + end, Checks.NONE);
            dueError(start + "not not over" + end, 3);
            dueError(start + "over under" + end, 3);
            dueError(start + "over not" + end, 3);
            dueError(start + "not" + end, 3);
            dueError(start + "over then fee is 1", 3);
        }
    }

    private void kindsOfValues() {
        edges.sentence(TERMS, "The value is a number after the facts age to count, and a date after birth and entry");
        String[] comparisons = {"is", "over", "under", "not over", "not under"};
        for (int fact = 0; fact < 6; fact++) {
            for (String comparison : comparisons) {
                String start = "if " + Edges.FACT_WORDS[fact] + " " + comparison + " ";
                int value = start.split(" ").length;
                dueError(start + "0 then fee is 1", fact < 4 ? Checks.NONE : value);
                dueError(start + "1900-01-01 then fee is 1", fact < 4 ? value : Checks.NONE);
                dueError(start + "age then fee is 1", value);
            }
        }
        // The kind is that of the condition's own fact, not of the one before it.
        dueError("if birth is 2000-01-01 and count is 5 then fee is 1", Checks.NONE);
        dueError("if count is 5 and birth is 5 then fee is 1", 7);
    }

    private void conclusions() {
        edges.sentence(TERMS, "A conclusion is a result, \"is\", a number, then optionally \"from\" and a date, "
                + "then optionally \"until\" and a date");
        for (String result : new String[] {"fee", "rate", "limit", "grade"}) {
            dueError(result + " is 1", Checks.NONE);
            dueError("if minor then " + result + " is 1 from 2000-01-01", Checks.NONE);
        }
        dueError("fee is 1 until 2000-01-01", Checks.NONE);
        dueError("fee is 1 from 2000-01-01 until 2000-01-01", Checks.NONE);
        dueError("fee 1", 1);
        dueError("fee is over 1", 2);
        dueError("fee is 2000-01-01", 2);
        dueError("fee is 1 1", 3);
        dueError("fee is 1 2000-01-01", 3);
        dueError("fee is 1 from 1", 4);
        dueError("fee is 1 until 1", 4);
        dueError("fee is 1 from until 2000-01-01", 4);
        dueError("fee is 1 from 2000-01-01 from 2000-01-01", 5);
        dueError("fee is 1 until 2000-01-01 until 2000-01-01", 5);
        dueError("fee is 1 until 2000-01-01 from 2000-01-01", 5);
        dueError("fee is 1 from 2000-01-01 2000-01-01", 5);
        dueError("fee is 1 from 2000-01-01 until 2000-01-01 until", 7);
        dueError("fee is 1 from 2000-01-01 until 2000-01-01 and", 7);
    }

    private void firstTokenThatCannotStand() {
        edges.sentence(TERMS, "A token is a syntax error if it cannot stand at its place in any sentence "
                + "that begins with the tokens before it");
        dueError("9999", 0);
        dueError("is is is", 0);
        dueError("if is is", 1);
        dueError("minor means means", 2);
        dueError("minor minor", 1);
        // What a word means, whether it is defined, and an empty region are no matter of syntax.
        dueError("minor means minor", Checks.NONE);
        dueError("if age over 9999 then fee is 1", Checks.NONE);
        dueError("fee is 1 from 2000-01-02 until 2000-01-01", Checks.NONE);
        // What comes behind the first error does not mend it.
        dueError("then if age is 1 then fee is 1", 0);
        dueError("if age is 2000-01-01 then fee is 1", 3);
    }

    private void endOfAnIncompleteSentence() {
        edges.sentence(TERMS, "the end of the sentence is one if the sentence is not complete");
        String[] sentences = {
            "minor means age not over 3", "if birth not under 2000-01-01 then fee is 1", "if minor and late then fee is 1",
            "fee is 1 from 2000-01-01 until 2000-01-01", "fee is 1 until 2000-01-01", "late means small and count is 3",
        };
        for (String sentence : sentences) {
            String[] tokens = sentence.split(" ");
            StringBuilder beginning = new StringBuilder();
            dueError("", 0);
            for (int i = 0; i < tokens.length; i++) {
                beginning.append(i == 0 ? "" : " ").append(tokens[i]);
                String last = tokens[i];
                // Complete are just these: conditions of a definition, a conclusion's number and its dates.
                boolean afterValue = last.matches("-?\\d+|\\d+-\\d+-\\d+");
                boolean complete = sentence.startsWith("if") ? afterValue && beginning.indexOf("then") >= 0
                        : afterValue || last.equals("small");
                dueError(beginning.toString(), complete ? Checks.NONE : i + 1);
            }
        }
    }

    private void limitDoesNotMatter() {
        edges.sentence(TERMS, "(The limit of 24 tokens does not matter for this.)");
        String eleven = "minor means late and late and late and late and late and late and late and late and late "
                + "and late and late";
        dueError(eleven, Checks.NONE);
        // The 24th token could go on in a longer sentence only: it is none, but the end is.
        dueError(eleven + " and", 24);
        dueError(eleven + " then", 23);
        dueError(eleven + " 5", 23);
        String rule = "if late and late and late and late and late and late and late and late and late and late ";
        dueError(rule + "then fee is 5", Checks.NONE);
        dueError(rule + "and late then fee", 24);
        dueError(rule + "and late and age", 24);
        dueError(rule + "and late and fee", 23);
        dueError("if age not over 1 and late and late and late and late and late and late "
                + "then fee is 5 from 2000-01-01 until", 24);
        dueError("if age not over 1 and late and late and late and late and late and late "
                + "then fee is 5 from 2000-01-01 and", 23);
    }
}
