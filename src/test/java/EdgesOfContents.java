/** Promises 12 to 24: what there is, and dates. */
final class EdgesOfContents {
    private static final int MIN = Edges.MIN;
    private static final int MAX = Edges.MAX;
    private static final int[] NO_SENTENCES = {-1, 8, 16, MIN, MAX};

    private final Edges edges;

    EdgesOfContents(Edges edges) {
        this.edges = edges;
    }

    void run() {
        numberOfSentences();
        aboutWordsAndResults();
        aboutNoSentence();
        givesNumbers();
        givesOfDefinitions();
        leastOfFacts();
        leastOfNoSentenceOrFact();
        greatestOfFacts();
        greatestOfNoSentenceOrFact();
        sharpnessOfSentences();
        usesBits();
        factValues();
        definitionNumbers();
        lengthOfTexts();
        charactersOfTexts();
        wordsNumbersAndDatesOfTexts();
        indexOfCharacters();
        dayNumbers();
        noSuchDate();
        dateOfNumbers();
        longestText();
        textsThatStay();
    }

    private void dueNoSentence(String name, java.util.function.IntFunction<Scene.Call> call) {
        for (int sentence : NO_SENTENCES) {
            edges.dueUnchanged(Scene.RICH, name + "(" + sentence + ")", call.apply(sentence), Checks.NO_SUCH_SENTENCE);
        }
        edges.due(name + "(0) of an empty book", call.apply(0).on(new SentenceRules()), Checks.NO_SUCH_SENTENCE);
        edges.due(name + "(16) of a full book", call.apply(16).on(Scene.FULL_BOOK.make()), Checks.NO_SUCH_SENTENCE);
        SentenceRules behind = Scene.RICH.make();
        behind.retract(7);
        edges.due(name + "(7) behind its end", call.apply(7).on(behind), Checks.NO_SUCH_SENTENCE);
    }

    private void numberOfSentences() {
        edges.sentence(12, "Returns the number of sentences in the book");
        SentenceRules rules = new SentenceRules();
        edges.due("sentences() of an empty book", rules.sentences(), 0);
        for (int i = 0; i < 16; i++) {
            Checks.tell(rules, "fee is " + i);
            edges.due("sentences()", rules.sentences(), i + 1);
        }
        Checks.tell(rules, "fee is 16");
        edges.due("sentences() of a full book", rules.sentences(), 16);
        rules.retract(0);
        edges.due("sentences() behind retract()", rules.sentences(), 15);
        rules.undo();
        edges.due("sentences() behind undo()", rules.sentences(), 16);
        edges.dueUnchanged(Scene.RICH, "sentences()", SentenceRules::sentences, 8);
    }

    private void aboutWordsAndResults() {
        edges.sentence(13, "Returns 10 + the word that it defines, or the result to which it gives a number");
        String[] words = {"minor", "senior", "small", "large", "early", "late"};
        String[] results = {"fee", "rate", "limit", "grade"};
        SentenceRules rules = new SentenceRules();
        for (int i = 0; i < 6; i++) {
            Checks.tell(rules, words[i] + " means age is 1");
            edges.due("about(" + i + ")", rules.about(i), 10 + i);
        }
        for (int i = 0; i < 4; i++) {
            Checks.tell(rules, results[i] + " is 20");
            Checks.tell(rules, "if late and minor then " + results[i] + " is 20");
            edges.due("about(" + (6 + 2 * i) + ")", rules.about(6 + 2 * i), i);
            edges.due("about(" + (7 + 2 * i) + ")", rules.about(7 + 2 * i), i);
        }
        edges.sentence(13, "sentence: number of a sentence");
        edges.dueUnchanged(Scene.RICH, "about(0)", r -> r.about(0), 10);
        edges.dueUnchanged(Scene.RICH, "about(7)", r -> r.about(7), 15);
        edges.due("about(15)", Scene.FULL_BOOK.make().about(15), 2);
    }

    private void aboutNoSentence() {
        edges.sentence(13, "NO_SUCH_SENTENCE");
        dueNoSentence("about", sentence -> rules -> rules.about(sentence));
    }

    private void givesNumbers() {
        edges.sentence(14, "Returns the number that it gives to its result");
        for (int number : new int[] {-9999, -1, 0, 1, 9999}) {
            SentenceRules rules = Checks.book("limit is " + number,
                    "if age is 7 and size is 8 then rate is " + number + " from 2000-01-01 until 2000-01-02");
            edges.due("gives(0)", rules.gives(0), number);
            edges.due("gives(1)", rules.gives(1), number);
        }
        edges.sentence(14, "sentence: number of a sentence");
        edges.dueUnchanged(Scene.RICH, "gives(2)", r -> r.gives(2), 1);
        edges.due("gives(15)", Scene.FULL_BOOK.make().gives(15), 15);
        edges.sentence(14, "NO_SUCH_SENTENCE");
        dueNoSentence("gives", sentence -> rules -> rules.gives(sentence));
    }

    private void givesOfDefinitions() {
        edges.sentence(14, "NONE if it is a definition");
        edges.dueUnchanged(Scene.RICH, "gives(0)", r -> r.gives(0), Checks.NONE);
        edges.dueUnchanged(Scene.RICH, "gives(1)", r -> r.gives(1), Checks.NONE);
        edges.dueUnchanged(Scene.RICH, "gives(7)", r -> r.gives(7), Checks.NONE);
        edges.due("gives(0) of a definition with a number", Checks.book("late means age is 5").gives(0), Checks.NONE);
        SentenceRules behind = Checks.book("fee is 3", "late means age is 5");
        edges.due("gives(1) of a definition behind a rule", behind.gives(1), Checks.NONE);
    }

    private void leastOfFacts() {
        edges.sentence(15, "Returns the least value of the fact in its region");
        edges.sentence(15, "fact: 0 to 6");
        for (int fact = 0; fact < 7; fact++) {
            int lowest = Edges.lowest(fact);
            int highest = Edges.highest(fact);
            for (int value : new int[] {lowest, lowest + 1, 7, highest - 1, highest}) {
                SentenceRules rules = Checks.book(Edges.ruleWithin(fact, value, highest, 1));
                edges.due("least(0, " + fact + ")", rules.least(0, fact), value);
                edges.due("greatest(0, " + fact + ")", rules.greatest(0, fact), highest);
            }
        }
        edges.sentence(15, "sentence: number of a sentence");
        edges.dueUnchanged(Scene.RICH, "least(7, 5)", r -> r.least(7, 5), 36524);
        edges.due("least(15, 6)", Scene.FULL_BOOK.make().least(15, 6), 0);
    }

    private void leastOfNoSentenceOrFact() {
        edges.sentence(15, "NO_SUCH_SENTENCE");
        dueNoSentence("least", sentence -> rules -> rules.least(sentence, 0));
        dueNoSentence("least, of no fact", sentence -> rules -> rules.least(sentence, 7));
        edges.sentence(15, "BAD_VALUE if fact is out of range");
        for (int fact : new int[] {-1, 7, MIN, MAX}) {
            edges.dueUnchanged(Scene.RICH, "least(0, " + fact + ")", r -> r.least(0, fact), Checks.BAD_VALUE);
        }
    }

    private void greatestOfFacts() {
        edges.sentence(16, "Returns the greatest value of the fact in its region");
        edges.sentence(16, "fact: 0 to 6");
        for (int fact = 0; fact < 7; fact++) {
            int lowest = Edges.lowest(fact);
            int highest = Edges.highest(fact);
            for (int value : new int[] {lowest, lowest + 1, 7, highest - 1, highest}) {
                SentenceRules rules = Checks.book(Edges.ruleWithin(fact, lowest, value, 1));
                edges.due("greatest(0, " + fact + ")", rules.greatest(0, fact), value);
                edges.due("least(0, " + fact + ")", rules.least(0, fact), lowest);
            }
        }
        edges.sentence(16, "sentence: number of a sentence");
        edges.dueUnchanged(Scene.RICH, "greatest(3, 0)", r -> r.greatest(3, 0), 17);
        edges.due("greatest(15, 6)", Scene.FULL_BOOK.make().greatest(15, 6), 73048);
    }

    private void greatestOfNoSentenceOrFact() {
        edges.sentence(16, "NO_SUCH_SENTENCE");
        dueNoSentence("greatest", sentence -> rules -> rules.greatest(sentence, 6));
        dueNoSentence("greatest, of no fact", sentence -> rules -> rules.greatest(sentence, -1));
        edges.sentence(16, "BAD_VALUE if fact is out of range");
        for (int fact : new int[] {-1, 7, MIN, MAX}) {
            edges.dueUnchanged(Scene.RICH, "greatest(0, " + fact + ")", r -> r.greatest(0, fact), Checks.BAD_VALUE);
        }
    }

    private void sharpnessOfSentences() {
        edges.sentence(17, "Returns its sharpness");
        edges.due("sharpness(0) of no limit", Checks.book("fee is 1").sharpness(0), 0);
        edges.due("sharpness(0) of a definition", Checks.book("late means size is 1 and age is 2").sharpness(0), 2);
        SentenceRules seven = Checks.book("minor means age is 1 and income is 1 and size is 1 and count is 1",
                "if minor and birth over 1900-01-01 and entry under 2099-12-31 then fee is 1 until 2099-12-30");
        edges.due("sharpness(0)", seven.sharpness(0), 4);
        edges.due("sharpness(1)", seven.sharpness(1), 7);
        edges.sentence(17, "sentence: number of a sentence");
        edges.dueUnchanged(Scene.RICH, "sharpness(7)", r -> r.sharpness(7), 1);
        edges.due("sharpness(15)", Scene.FULL_BOOK.make().sharpness(15), 0);
        edges.sentence(17, "NO_SUCH_SENTENCE");
        dueNoSentence("sharpness", sentence -> rules -> rules.sharpness(sentence));
    }

    private void usesBits() {
        edges.sentence(18, "Returns the words that it uses, as bits (the bit w for the word w)");
        String[] words = {"minor", "senior", "small", "large", "early", "late"};
        SentenceRules rules = new SentenceRules();
        for (int i = 0; i < 6; i++) {
            Checks.tell(rules, words[i] + " means age is 1");
            edges.due("uses(" + i + ") of its definition", rules.uses(i), 0);
        }
        for (int i = 0; i < 6; i++) {
            edges.due("tell()", Checks.tell(rules, "if " + words[i] + " then fee is 1"), 6 + i);
            edges.due("uses(" + (6 + i) + ")", rules.uses(6 + i), 1 << i);
        }
        Checks.tell(rules, "if minor and senior and small and large and early and late then fee is 1");
        edges.due("uses(12) of all", rules.uses(12), 63);
        Checks.tell(rules, "if late and late and minor then fee is 1");
        edges.due("uses(13) of one twice", rules.uses(13), 33);
        Checks.tell(rules, "fee is 1");
        edges.due("uses(14) of none", rules.uses(14), 0);
        SentenceRules chain = Checks.book("minor means age is 1", "late means minor", "if late then fee is 1");
        edges.due("uses(1)", chain.uses(1), 1);
        edges.due("uses(2)", chain.uses(2), 32);
        edges.sentence(18, "sentence: number of a sentence");
        edges.dueUnchanged(Scene.RICH, "uses(3)", r -> r.uses(3), 4);
        edges.due("uses(15)", Scene.FULL_BOOK.make().uses(15), 0);
        edges.sentence(18, "NO_SUCH_SENTENCE");
        dueNoSentence("uses", sentence -> r -> r.uses(sentence));
    }

    private void factValues() {
        edges.sentence(19, "Returns the value of the fact");
        edges.sentence(19, "fact: 0 to 6");
        SentenceRules rules = new SentenceRules();
        for (int fact = 0; fact < 7; fact++) {
            edges.due("fact(" + fact + ")", rules.fact(fact), fact == 6 ? 36524 : 0);
            rules.setFact(fact, Edges.lowest(fact));
            edges.due("fact(" + fact + ")", rules.fact(fact), Edges.lowest(fact));
            rules.setFact(fact, Edges.highest(fact));
            edges.due("fact(" + fact + ")", rules.fact(fact), Edges.highest(fact));
        }
        edges.dueUnchanged(Scene.RICH, "fact(3)", r -> r.fact(3), -7);
        edges.sentence(19, "BAD_VALUE if fact is out of range");
        for (int fact : new int[] {-1, 7, MIN, MAX}) {
            edges.dueUnchanged(Scene.RICH, "fact(" + fact + ")", r -> r.fact(fact), Checks.BAD_VALUE);
        }
    }

    private void definitionNumbers() {
        edges.sentence(20, "Returns the number of its definition");
        edges.sentence(20, "word: 0 to 5");
        SentenceRules rules = Checks.book("late means age is 1", "fee is 5", "minor means age is 1");
        edges.due("definition(5)", rules.definition(5), 0);
        edges.due("definition(0)", rules.definition(0), 2);
        for (int i = 0; i < 13; i++) {
            Checks.tell(rules, "fee is 1");
        }
        rules.retract(1);
        edges.due("definition(0)", rules.definition(0), 1);
        Checks.tell(rules, "small means age is 1");
        edges.due("definition(2) of the last of a full book", rules.definition(2), 15);
        edges.sentence(20, "BAD_VALUE if word is out of range");
        for (int word : new int[] {-1, 6, 16, -10, MIN, MAX}) {
            edges.dueUnchanged(Scene.RICH, "definition(" + word + ")", r -> r.definition(word), Checks.BAD_VALUE);
        }
        edges.sentence(20, "NONE if it has none");
        edges.dueUnchanged(Scene.RICH, "definition(1)", r -> r.definition(1), Checks.NONE);
        edges.dueUnchanged(Scene.FULL_BOOK, "definition(3), said and not told", r -> r.definition(3), Checks.NONE);
        rules.retract(15);
        edges.due("definition(2) behind retract()", rules.definition(2), Checks.NONE);
    }

    private void lengthOfTexts() {
        edges.sentence(21, "Returns the number of characters of its text");
        String[] sentences = {"fee is 0", "fee is -1", "fee is 10", "fee is -9999", "fee is 1 from 2000-01-01",
            "large means count not over 100", Scene.LONGEST};
        for (String sentence : sentences) {
            edges.due("length(0) of '" + sentence + "'", Checks.book(sentence).length(0), sentence.length() + 1);
        }
        edges.sentence(21, "sentence: number of a sentence");
        edges.dueUnchanged(Scene.RICH, "length(7)", r -> r.length(7), "late means entry over 1999-12-31.".length());
        edges.due("length(15)", Scene.FULL_BOOK.make().length(15), "limit is 15.".length());
        edges.sentence(21, "NO_SUCH_SENTENCE");
        dueNoSentence("length", sentence -> rules -> rules.length(sentence));
    }

    private void dueText(String sentence) {
        edges.dueText(Checks.book(sentence), 0, sentence + ".");
    }

    private void charactersOfTexts() {
        edges.sentence(22, "Returns a character of the text of a sentence");
        edges.sentence(22, "Returns the code of the character");
        SentenceRules rules = Checks.book("fee is -5 from 2000-01-01");
        String text = "fee is -5 from 2000-01-01.";
        for (int i = 0; i < text.length(); i++) {
            edges.due("character(0, " + i + ")", rules.character(0, i), text.charAt(i));
        }
        edges.due("character(0, 0)", rules.character(0, 0), 102);
        edges.sentence(22, "The text consists of its tokens with a blank between two of them, and a \".\" at the end");
        edges.due("the blank", rules.character(0, 3), 32);
        edges.due("the \".\"", rules.character(0, 25), 46);
        dueText(Scene.LONGEST);
        // The text is that of the tokens, not of what they mean.
        SentenceRules words = Checks.book("minor means age under 18", "if minor and minor then fee is 1 from 1900-01-01");
        edges.dueText(words, 1, "if minor and minor then fee is 1 from 1900-01-01.");
    }

    private void wordsNumbersAndDatesOfTexts() {
        edges.sentence(22, "A word is written in small letters, a number in decimal digits, with \"-\" before it if it is negative, "
                + "and a date as the year with four digits, \"-\", the month with two digits, \"-\", and the day with two digits");
        for (int number : new int[] {-9999, -1000, -999, -100, -99, -10, -9, -1, 0, 1, 9, 10, 99, 100, 999, 1000, 9999}) {
            dueText("fee is " + number);
            dueText("small means income not under " + number);
        }
        String[] dates = {"1900-01-01", "1900-02-28", "1999-09-09", "1999-10-10", "2000-02-29", "2004-02-29", "2005-05-31",
            "2009-11-30", "2010-12-01", "2099-12-09", "2099-12-31"};
        for (String date : dates) {
            dueText("fee is 1 until " + date);
            dueText("late means birth is " + date);
        }
        for (int month = 1; month <= 12; month++) {
            dueText("fee is 1 from 2003-" + (month < 10 ? "0" : "") + month + "-01");
        }
        for (int day = 1; day <= 31; day++) {
            dueText("fee is 1 from 2003-07-" + (day < 10 ? "0" : "") + day);
        }
        for (int fact = 0; fact < 6; fact++) {
            for (String comparison : new String[] {"is", "over", "under", "not over", "not under"}) {
                dueText("if " + Edges.FACT_WORDS[fact] + " " + comparison + " " + Edges.said(fact, 5) + " then grade is 2");
            }
        }
        for (String word : new String[] {"minor", "senior", "small", "large", "early", "late"}) {
            SentenceRules rules = Checks.book(word + " means age is 1", "if " + word + " then limit is 1", "rate is 7");
            edges.dueText(rules, 0, word + " means age is 1.");
            edges.dueText(rules, 1, "if " + word + " then limit is 1.");
            edges.dueText(rules, 2, "rate is 7.");
        }
    }

    private void indexOfCharacters() {
        edges.sentence(22, "index: 0 to its length minus 1");
        edges.sentence(22, "sentence: number of a sentence");
        SentenceRules rules = Checks.book("fee is 1", "rate is 10");
        edges.due("character(0, 0)", rules.character(0, 0), 'f');
        edges.due("character(0, 8)", rules.character(0, 8), '.');
        edges.due("character(0, 9)", rules.character(0, 9), Checks.BAD_VALUE);
        edges.due("character(1, 0)", rules.character(1, 0), 'r');
        edges.due("character(1, 10)", rules.character(1, 10), '.');
        edges.due("character(1, 11)", rules.character(1, 11), Checks.BAD_VALUE);
        edges.due("character(0, 9) behind a longer text", rules.character(0, 9), Checks.BAD_VALUE);
        edges.due("character(15, 11)", Scene.FULL_BOOK.make().character(15, 11), '.');
        edges.sentence(22, "BAD_VALUE if index is out of range");
        int length = "minor means age under 18.".length();
        for (int index : new int[] {-1, length, length + 1, MIN, MAX}) {
            edges.dueUnchanged(Scene.RICH, "character(0, " + index + ")", r -> r.character(0, index), Checks.BAD_VALUE);
        }
        edges.dueUnchanged(Scene.RICH, "the last character", r -> r.character(0, length - 1), '.');
        edges.sentence(22, "NO_SUCH_SENTENCE");
        dueNoSentence("character", sentence -> r -> r.character(sentence, 0));
        dueNoSentence("character, at no index", sentence -> r -> r.character(sentence, -1));
    }

    // ---- dates

    private void dayNumbers() {
        edges.sentence(23, "Returns the day number");
        SentenceRules rules = new SentenceRules();
        int[][] days = {{1900, 1, 1, 0}, {1900, 1, 31, 30}, {1900, 2, 1, 31}, {1900, 2, 28, 58}, {1900, 3, 1, 59},
            {1900, 12, 31, 364}, {1901, 1, 1, 365}, {1904, 2, 29, 1519}, {1904, 3, 1, 1520}, {1999, 12, 31, 36523},
            {2000, 1, 1, 36524}, {2000, 2, 28, 36582}, {2000, 2, 29, 36583}, {2000, 3, 1, 36584}, {2000, 12, 31, 36889},
            {2099, 12, 30, 73047}, {2099, 12, 31, 73048}};
        for (int[] day : days) {
            String name = "dayNumber(" + day[0] + ", " + day[1] + ", " + day[2] + ")";
            edges.due(name, rules.dayNumber(day[0], day[1], day[2]), day[3]);
            edges.due("dateOf(" + day[3] + ")", rules.dateOf(day[3]), 10000 * day[0] + 100 * day[1] + day[2]);
        }
        edges.dueUnchanged(Scene.RICH, "dayNumber(2000, 1, 1)", r -> r.dayNumber(2000, 1, 1), 36524);
    }

    private void dueNoDate(int year, int month, int day) {
        edges.due("dayNumber(" + year + ", " + month + ", " + day + ")",
                new SentenceRules().dayNumber(year, month, day), Checks.BAD_VALUE);
    }

    private void noSuchDate() {
        edges.sentence(23, "year: 1900 to 2099");
        SentenceRules rules = new SentenceRules();
        edges.due("dayNumber(1900, 7, 1)", rules.dayNumber(1900, 7, 1), 181);
        edges.due("dayNumber(2099, 7, 1)", rules.dayNumber(2099, 7, 1), 72865);
        for (int year : new int[] {1899, 2100, 0, -2000, MIN, MAX}) {
            dueNoDate(year, 7, 1);
        }
        edges.sentence(23, "month: 1 to 12");
        edges.due("dayNumber(2000, 1, 9)", rules.dayNumber(2000, 1, 9), 36532);
        edges.due("dayNumber(2000, 12, 9)", rules.dayNumber(2000, 12, 9), 36867);
        for (int month : new int[] {0, 13, -1, MIN, MAX}) {
            dueNoDate(2000, month, 9);
        }
        edges.sentence(23, "day: 1 to the number of days of the month");
        int[] days = {31, 28, 31, 30, 31, 30, 31, 31, 30, 31, 30, 31};
        for (int month = 1; month <= 12; month++) {
            for (int year : new int[] {1900, 2000, 2001, 2096, 2099}) {
                int last = month == 2 && (year == 2000 || year == 2096) ? 29 : days[month - 1];
                int first = rules.dayNumber(year, month, 1);
                edges.due("the last day of month " + month, rules.dayNumber(year, month, last), first + last - 1);
                dueNoDate(year, month, last + 1);
                dueNoDate(year, month, 0);
            }
        }
        edges.sentence(23, "BAD_VALUE if there is no such date");
        edges.dueUnchanged(Scene.RICH, "dayNumber(2001, 2, 29)", r -> r.dayNumber(2001, 2, 29), Checks.BAD_VALUE);
        for (int day : new int[] {-1, 32, MIN, MAX}) {
            dueNoDate(2000, 1, day);
        }
    }

    private void dateOfNumbers() {
        edges.sentence(24, "Returns 10000 * year + 100 * month + day of the date with this day number");
        SentenceRules rules = new SentenceRules();
        edges.due("dateOf(58)", rules.dateOf(58), 19000228);
        edges.due("dateOf(59)", rules.dateOf(59), 19000301);
        edges.due("dateOf(36583)", rules.dateOf(36583), 20000229);
        edges.due("dateOf(36584)", rules.dateOf(36584), 20000301);
        edges.sentence(24, "number: 0 to 73048");
        edges.due("dateOf(0)", rules.dateOf(0), 19000101);
        edges.due("dateOf(73048)", rules.dateOf(73048), 20991231);
        edges.dueUnchanged(Scene.RICH, "dateOf(36524)", r -> r.dateOf(36524), 20000101);
        edges.sentence(24, "BAD_VALUE if number is out of range");
        for (int number : new int[] {-1, 73049, MIN, MAX}) {
            edges.dueUnchanged(Scene.RICH, "dateOf(" + number + ")", r -> r.dateOf(number), Checks.BAD_VALUE);
        }
    }

    private void longestText() {
        edges.sentence(22, "The text consists of its tokens with a blank between two of them");
        // As many characters as 24 tokens can have: words, numbers and dates that are written long.
        SentenceRules rules = Checks.book("senior means income not under -9999");
        String longest = "if senior and income not under -9999 and birth not under 1900-01-01 and birth not under 1900-01-01 "
                + "then grade is -9999 until 2099-12-31";
        edges.due("tell()", Checks.tell(rules, longest), 1);
        edges.due("length(1)", rules.length(1), longest.length() + 1);
        edges.dueText(rules, 1, longest + ".");
        // The text is told the same whichever was read before.
        edges.dueText(rules, 0, "senior means income not under -9999.");
        edges.due("character(1, 130)", rules.character(1, 130), longest.charAt(130));
    }

    /** Texts are written when a sentence is told, so they must outlast what is said and told behind them. */
    private void textsThatStay() {
        edges.sentence(22, "The text consists of its tokens with a blank between two of them");
        SentenceRules rules = Checks.book("fee is 1 from 2000-01-01", "rate is -22", "minor means age over 3");
        edges.due("back()", rules.back(), Checks.NOT_POSSIBLE);
        Checks.say(rules, "if minor then");
        edges.dueText(rules, 0, "fee is 1 from 2000-01-01.");
        edges.dueText(rules, 1, "rate is -22.");
        edges.due("retract(0)", rules.retract(0), 2);
        edges.dueText(rules, 0, "rate is -22.");
        edges.dueText(rules, 1, "minor means age over 3.");
        edges.due("tell()", Checks.tell(rules, "limit is 9"), 2);
        edges.dueText(rules, 0, "rate is -22.");
        edges.dueText(rules, 2, "if minor then limit is 9.");
        edges.due("undo()", rules.undo(), 4);
        edges.due("length(2)", rules.length(2), Checks.NO_SUCH_SENTENCE);
        edges.due("undo()", rules.undo(), 3);
        edges.dueText(rules, 0, "fee is 1 from 2000-01-01.");
        edges.dueText(rules, 1, "rate is -22.");
        edges.dueText(rules, 2, "minor means age over 3.");
    }
}
