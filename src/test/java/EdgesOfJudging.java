/** The terms of the book, of answers and contradictions, of undo, and of errors. */
final class EdgesOfJudging {
    private static final int TERMS = Edges.TERMS;

    private final Edges edges;

    EdgesOfJudging(Edges edges) {
        this.edges = edges;
    }

    void run() {
        sixteenSentences();
        numbersBehindARemovedSentence();
        oneDefinitionAWord();
        usedWords();
        applyingRules();
        overriddenRules();
        rulesThatOverrideNothing();
        reasonsAreNotOverridden();
        orderOfReasons();
        noReasons();
        reasonsThatAgree();
        reasonsThatDisagree();
        contradictionsNeedOneResult();
        contradictionsNeedOtherNumbers();
        contradictionsNeedCommonValues();
        contradictionsNeedNoInside();
        contradictionsAreSettledByTheCommonRegion();
        equalRegionsDoNotContradict();
        actsRecord();
        eightStates();
        oldestStateIsDropped();
        partsOfTheState();
        errorsChangeNothing();
        firstErrorIsReturned();
        noneAndRefusedComeLast();
        constants();
    }

    // ---- the book

    private void sixteenSentences() {
        edges.sentence(TERMS, "The book has at most 16 sentences, numbered from 0");
        SentenceRules rules = new SentenceRules();
        for (int i = 0; i < 16; i++) {
            edges.due("tell()", Checks.tell(rules, "fee is " + i), i);
            edges.due("sentences()", rules.sentences(), i + 1);
            edges.due("gives(" + i + ")", rules.gives(i), i);
            edges.due("gives(" + (i + 1) + ")", rules.gives(i + 1), Checks.NO_SUCH_SENTENCE);
        }
        edges.due("tell() of one more", Checks.tell(rules, "fee is 16"), Checks.FULL);
        edges.due("sentences()", rules.sentences(), 16);
        edges.due("gives(-1)", rules.gives(-1), Checks.NO_SUCH_SENTENCE);
        edges.due("retract(15)", rules.retract(15), 15);
        edges.due("tell() into the place that is free", rules.tell(), 15);
        edges.due("gives(15)", rules.gives(15), 16);
    }

    private void numbersBehindARemovedSentence() {
        edges.sentence(TERMS, "When a sentence is removed, the numbers of those after it decrease by 1");
        int[] removed = {0, 1, 7, 14, 15};
        for (int gone : removed) {
            SentenceRules rules = new SentenceRules();
            for (int i = 0; i < 16; i++) {
                Checks.tell(rules, i == 14 ? "late means age is 1" : "fee is " + i);
            }
            edges.due("retract(" + gone + ")", rules.retract(gone), 15);
            for (int i = 0; i < 15; i++) {
                int was = i < gone ? i : i + 1;
                edges.due("gives(" + i + ") behind retract(" + gone + ")", rules.gives(i), was == 14 ? Checks.NONE : was);
                edges.due("about(" + i + ") behind retract(" + gone + ")", rules.about(i), was == 14 ? 15 : 0);
            }
            edges.due("gives(15)", rules.gives(15), Checks.NO_SUCH_SENTENCE);
            edges.due("definition(5)", rules.definition(5), gone == 14 ? Checks.NONE : gone < 14 ? 13 : 14);
            edges.due("the reason with the least number", rules.reason(0, 0), 0);
            edges.due("reasons(0)", rules.reasons(0), gone == 14 ? 15 : 14);
        }
        SentenceRules words = Checks.book("fee is 1", "minor means age is 1", "if minor then fee is 2");
        words.retract(0);
        edges.due("uses(1)", words.uses(1), 1);
        edges.due("retract(0) of a definition that is used", words.retract(0), Checks.NOT_POSSIBLE);
        edges.due("compare(0, 1)", words.compare(0, 1), 0);
    }

    private void oneDefinitionAWord() {
        edges.sentence(TERMS, "A word can have only one definition at a time");
        String[] words = {"minor", "senior", "small", "large", "early", "late"};
        for (int i = 0; i < 6; i++) {
            SentenceRules rules = Checks.book("fee is 1", words[i] + " means age is 1");
            edges.due("tell() of a second definition", Checks.tell(rules, words[i] + " means age is 2"), Checks.NOT_POSSIBLE);
            edges.due("tell() of the same definition", sayAnew(rules, words[i] + " means age is 1"), Checks.NOT_POSSIBLE);
            edges.due("tell() of another word", sayAnew(rules, words[(i + 1) % 6] + " means age is 2"), 2);
            edges.due("definition(" + i + ")", rules.definition(i), 1);
            // At a time: when the first is gone, the word can have another one.
            edges.due("retract(1)", rules.retract(1), 2);
            edges.due("definition(" + i + ")", rules.definition(i), Checks.NONE);
            edges.due("tell() of another definition", sayAnew(rules, words[i] + " means age is 2"), 2);
            edges.due("least(2, 0)", rules.least(2, 0), 2);
        }
    }

    private static int sayAnew(SentenceRules rules, String sentence) {
        rules.clear();
        return Checks.tell(rules, sentence);
    }

    private void usedWords() {
        edges.sentence(TERMS, "A sentence uses a word if the word is one of its conditions");
        SentenceRules rules = Checks.book("minor means age under 18", "senior means minor and size is 1",
                "if senior then fee is 1", "if age is 1 and senior and minor and minor then fee is 1", "fee is 1");
        int[] due = {0, 1, 2, 3, 0};
        for (int i = 0; i < due.length; i++) {
            edges.due("uses(" + i + ")", rules.uses(i), due[i]);
        }
    }

    // ---- answers

    private void applyingRules() {
        edges.sentence(TERMS, "A rule applies if its region contains the present facts");
        for (int fact = 0; fact < 7; fact++) {
            SentenceRules rules = Checks.book(Edges.ruleWithin(fact, 30, 40, 5));
            int[] values = {Edges.lowest(fact), 29, 30, 40, 41, Edges.highest(fact)};
            int[] due = {0, 0, 1, 1, 0, 0};
            for (int i = 0; i < values.length; i++) {
                rules.setFact(fact, values[i]);
                edges.due("reasons(0) with fact " + fact + " of " + values[i], rules.reasons(0), due[i]);
            }
        }
        SentenceRules definition = Checks.book("minor means age is 0");
        for (int result = 0; result < 4; result++) {
            edges.due("reasons(" + result + ") of a definition", definition.reasons(result), 0);
        }
    }

    private void overriddenRules() {
        edges.sentence(TERMS, "For a result, a rule that applies is overridden if another rule for the same result applies "
                + "whose region is strictly inside its region");
        for (int order = 0; order < 2; order++) {
            String wide = "if age under 9 then fee is 1";
            String narrow = "if age under 9 and size under 9 then fee is 2";
            SentenceRules rules = order == 0 ? Checks.book(wide, narrow) : Checks.book(narrow, wide);
            edges.due("overridden(0)", rules.overridden(0), 1);
            edges.due("reason(0, 0)", rules.reason(0, 0), 1 - order);
            edges.due("answer(0)", rules.answer(0), 2);
            rules.setFact(2, 8);
            edges.due("answer(0) at the last size", rules.answer(0), 2);
            rules.setFact(2, 9);
            edges.due("overridden(0) where the narrow one does not apply", rules.overridden(0), 0);
            edges.due("answer(0)", rules.answer(0), 1);
            rules.setFact(0, 9);
            edges.due("overridden(0) where none applies", rules.overridden(0), 0);
            edges.due("answer(0)", rules.answer(0), Checks.NONE);
        }
        // A rule that is overridden itself overrides all the same, and so does one that gives the same number.
        SentenceRules chain = Checks.book("fee is 1", "if age under 9 then fee is 1", "if age under 8 then fee is 1");
        edges.due("overridden(0)", chain.overridden(0), 2);
        edges.due("reasons(0)", chain.reasons(0), 1);
        edges.due("reason(0, 0)", chain.reason(0, 0), 2);
    }

    private void rulesThatOverrideNothing() {
        edges.sentence(TERMS, "if another rule for the same result applies whose region is strictly inside its region");
        String[][] books = {
            {"fee is 1", "if age is 0 then rate is 2"},
            {"fee is 1", "minor means age is 0"},
            {"fee is 1", "if age is 1 then fee is 2"},
            {"fee is 1", "if age not over 9999 then fee is 1"},
            {"if age under 9 then fee is 1", "if size under 9 then fee is 1"},
            {"if age under 9 then fee is 1", "if age over -9 then fee is 1"},
        };
        for (String[] sentences : books) {
            SentenceRules rules = Checks.book(sentences);
            String name = " of " + String.join(", ", sentences);
            edges.due("overridden(0)" + name, rules.overridden(0), 0);
            edges.due("answer(0)" + name, rules.answer(0), 1);
            edges.due("reason(0, 0)" + name, rules.reason(0, 0), 0);
        }
    }

    private void reasonsAreNotOverridden() {
        edges.sentence(TERMS, "The reasons of a result are the rules for it that apply and are not overridden");
        SentenceRules rules = Checks.book("fee is 1", "if age is 0 then fee is 2", "if age is 1 then fee is 3",
                "rate is 4", "if size is 0 then fee is 2", "limit is 5", "limit is 5");
        edges.due("reasons(0)", rules.reasons(0), 2);
        edges.due("reason(0, 0)", rules.reason(0, 0), 1);
        edges.due("reason(0, 1)", rules.reason(0, 1), 4);
        edges.due("reason(0, 2)", rules.reason(0, 2), Checks.NONE);
        edges.due("overridden(0)", rules.overridden(0), 1);
        edges.due("reasons(1)", rules.reasons(1), 1);
        edges.due("reasons(2)", rules.reasons(2), 2);
        edges.due("reasons(3)", rules.reasons(3), 0);
        // All sixteen can be reasons, and all but one can be overridden.
        SentenceRules all = new SentenceRules();
        SentenceRules nested = new SentenceRules();
        for (int i = 0; i < 16; i++) {
            Checks.tell(all, "grade is 3");
            Checks.tell(nested, "if age under " + (100 - i) + " then grade is 3");
        }
        edges.due("reasons(3) of sixteen", all.reasons(3), 16);
        edges.due("reason(3, 15)", all.reason(3, 15), 15);
        edges.due("reason(3, 16)", all.reason(3, 16), Checks.NONE);
        edges.due("reasons(3) of sixteen, one in the other", nested.reasons(3), 1);
        edges.due("overridden(3)", nested.overridden(3), 15);
        edges.due("reason(3, 0)", nested.reason(3, 0), 15);
    }

    private void orderOfReasons() {
        edges.sentence(TERMS, "they are ordered by their sharpness, the greatest first, and with equal sharpness "
                + "by their numbers, the lowest first");
        SentenceRules rules = Checks.book("if age is 0 then fee is 1", "if size is 0 and count is 0 then fee is 1",
                "if income is 0 then fee is 1", "if count is 0 and birth is 1900-01-01 then fee is 1",
                "if entry is 1900-01-01 and size is 0 and birth is 1900-01-01 then fee is 1", "if size under 9 then fee is 1",
                "if entry is 1900-01-01 and income under 5 and count under 5 then fee is 1");
        // Size below 9 is all that the sixth limits, and the second and the fifth are strictly inside it.
        int[] due = {4, 6, 1, 3, 0, 2};
        edges.due("overridden(0)", rules.overridden(0), 1);
        for (int i = 0; i < due.length; i++) {
            edges.due("reason(0, " + i + ")", rules.reason(0, i), due[i]);
        }
        edges.due("reason(0, 6)", rules.reason(0, 6), Checks.NONE);
        SentenceRules equal = Checks.book("fee is 1", "fee is 2", "fee is 1");
        for (int i = 0; i < 3; i++) {
            edges.due("reason(0, " + i + ") of equal sharpness", equal.reason(0, i), i);
        }
    }

    private void noReasons() {
        edges.sentence(TERMS, "If there are no reasons, there is no answer");
        SentenceRules rules = Checks.book("if age over 0 then fee is 1", "rate is 1");
        edges.due("answer(0)", rules.answer(0), Checks.NONE);
        rules.setFact(0, 1);
        edges.due("answer(0)", rules.answer(0), 1);
        for (int result = 0; result < 4; result++) {
            edges.due("answer(" + result + ") of an empty book", new SentenceRules().answer(result), Checks.NONE);
        }
    }

    private void reasonsThatAgree() {
        edges.sentence(TERMS, "if all reasons give the same number, this is the answer");
        for (int number : new int[] {-9999, -1, 0, 1, 9999}) {
            SentenceRules rules = Checks.book("if age is 0 then fee is " + number);
            edges.due("answer(0) of one reason", rules.answer(0), number);
            Checks.tell(rules, "if size is 0 then fee is " + number);
            Checks.tell(rules, "if age is 0 then fee is " + number);
            edges.due("answer(0) of three", rules.answer(0), number);
            // Rules that are overridden or do not apply may give other numbers.
            Checks.tell(rules, "fee is 7");
            Checks.tell(rules, "if age is 1 then fee is 8");
            edges.due("answer(0) beside other numbers", rules.answer(0), number);
        }
    }

    private void reasonsThatDisagree() {
        edges.sentence(TERMS, "otherwise the answer is refused");
        String[] same = {"if age is 0 then fee is 1", "if size is 0 then fee is 1", "if count is 0 then fee is 1"};
        for (int other = 0; other < 3; other++) {
            String[] sentences = same.clone();
            sentences[other] = sentences[other].replace("is 1", "is 2");
            SentenceRules rules = Checks.book(sentences);
            edges.due("answer(0) with another number of " + other, rules.answer(0), Checks.REFUSED);
            edges.due("reasons(0)", rules.reasons(0), 3);
            rules.retract(other);
            edges.due("answer(0) without it", rules.answer(0), 1);
        }
    }

    // ---- contradictions

    private static final String CONTRADICTS = "Two rules for the same result contradict each other if they give different "
            + "numbers, there are values that both regions contain, neither region is strictly inside the other one, and no "
            + "rule for the same result has exactly the region of the values that both regions contain";

    private void dueContradiction(int want, String... sentences) {
        SentenceRules rules = Checks.book(sentences);
        edges.due("contradiction(0) of " + String.join(", ", sentences), rules.contradiction(0), want);
        edges.due("contradiction(1) of " + String.join(", ", sentences), rules.contradiction(1), Checks.NONE);
    }

    private void contradictionsNeedOneResult() {
        edges.sentence(TERMS, "Two rules for the same result contradict each other if");
        String[] results = {"fee", "rate", "limit", "grade"};
        for (String result : results) {
            for (String other : results) {
                dueContradiction(result.equals(other) ? 1 : Checks.NONE, "if age under 9 then " + result + " is 1",
                        "if size under 9 then " + other + " is 2");
            }
        }
        dueContradiction(Checks.NONE, "if age under 9 then fee is 1", "minor means size under 9");
        dueContradiction(Checks.NONE, "minor means age under 9", "if size under 9 then fee is 1");
        dueContradiction(Checks.NONE, "minor means age under 9", "senior means size under 9");
    }

    private void contradictionsNeedOtherNumbers() {
        edges.sentence(TERMS, "they give different numbers");
        dueContradiction(Checks.NONE, "if age under 9 then fee is 1", "if size under 9 then fee is 1");
        dueContradiction(1, "if age under 9 then fee is 1", "if size under 9 then fee is 0");
        dueContradiction(1, "if age under 9 then fee is -9999", "if size under 9 then fee is 9999");
        // Whether the facts are in the regions at present is no matter.
        dueContradiction(1, "if age over 9 then fee is 1", "if size over 9 then fee is 2");
    }

    private void contradictionsNeedCommonValues() {
        edges.sentence(TERMS, "there are values that both regions contain");
        for (int fact = 0; fact < 7; fact++) {
            dueContradiction(1, Edges.ruleWithin(fact, 10, 20, 1), Edges.ruleWithin(fact, 20, 30, 2));
            dueContradiction(Checks.NONE, Edges.ruleWithin(fact, 10, 20, 1), Edges.ruleWithin(fact, 21, 30, 2));
            dueContradiction(1, Edges.ruleWithin(fact, 20, 30, 1), Edges.ruleWithin(fact, 10, 20, 2));
            dueContradiction(Checks.NONE, Edges.ruleWithin(fact, 21, 30, 1), Edges.ruleWithin(fact, 10, 20, 2));
        }
    }

    private void contradictionsNeedNoInside() {
        edges.sentence(TERMS, "neither region is strictly inside the other one");
        for (int fact = 0; fact < 7; fact++) {
            dueContradiction(Checks.NONE, Edges.ruleWithin(fact, 10, 20, 1), Edges.ruleWithin(fact, 10, 19, 2));
            dueContradiction(Checks.NONE, Edges.ruleWithin(fact, 11, 20, 1), Edges.ruleWithin(fact, 10, 20, 2));
            dueContradiction(1, Edges.ruleWithin(fact, 10, 19, 1), Edges.ruleWithin(fact, 11, 20, 2));
        }
    }

    private void contradictionsAreSettledByTheCommonRegion() {
        edges.sentence(TERMS, "no rule for the same result has exactly the region of the values that both regions contain");
        for (int fact = 0; fact < 7; fact++) {
            String first = Edges.ruleWithin(fact, 10, 20, 1);
            String second = Edges.ruleWithin(fact, 15, 30, 2);
            for (int fee = 1; fee <= 3; fee++) {
                dueContradiction(Checks.NONE, first, second, Edges.ruleWithin(fact, 15, 20, fee));
            }
            SentenceRules before = Checks.book(Edges.ruleWithin(fact, 15, 20, 3), first, second);
            edges.due("contradiction(0) with the settling rule first", before.contradiction(0), Checks.NONE);
            before.retract(0);
            edges.due("contradiction(0) without it", before.contradiction(0), 1);
            // One value less or more on either side, and another result: these settle nothing.
            dueContradiction(1, first, second, Edges.ruleWithin(fact, 16, 20, 3));
            dueContradiction(1, first, second, Edges.ruleWithin(fact, 15, 19, 3));
            dueContradiction(1, first, second, Edges.ruleWithin(fact, 15, 20, 3).replace("fee", "rate"));
        }
        dueContradiction(1, "if age under 9 then fee is 1", "if size under 9 then fee is 2",
                "minor means age under 9 and size under 9");
        dueContradiction(Checks.NONE, "if age under 9 then fee is 1", "if size under 9 then fee is 2",
                "if age under 9 and size under 9 then fee is 3");
    }

    private void equalRegionsDoNotContradict() {
        edges.sentence(TERMS, CONTRADICTS);
        dueContradiction(1, "if age under 9 then fee is 1", "if size under 9 then fee is 2");
        edges.sentence(TERMS, "(Equal regions have exactly themselves in common");
        dueContradiction(Checks.NONE, "fee is 1", "fee is 2");
        dueContradiction(Checks.NONE, "fee is 1", "fee is 2", "fee is 3");
        for (int fact = 0; fact < 7; fact++) {
            dueContradiction(Checks.NONE, Edges.ruleWithin(fact, 10, 20, 1), Edges.ruleWithin(fact, 10, 20, 2));
        }
        edges.sentence(TERMS, "so two rules with equal regions and different numbers do not contradict each other by this "
                + "definition, although the answer is refused where they are reasons.)");
        SentenceRules rules = Checks.book("if age over 3 then fee is 1", "if age not under 4 then fee is 2");
        edges.due("contradiction(0)", rules.contradiction(0), Checks.NONE);
        edges.due("answer(0) where they do not apply", rules.answer(0), Checks.NONE);
        rules.setFact(0, 4);
        edges.due("answer(0) where they are reasons", rules.answer(0), Checks.REFUSED);
        edges.due("reasons(0)", rules.reasons(0), 2);
        edges.due("contradiction(0)", rules.contradiction(0), Checks.NONE);
        Checks.tell(rules, "if age is 4 then fee is 5");
        edges.due("answer(0) where both are overridden", rules.answer(0), 5);
    }

    // ---- undo

    private void actsRecord() {
        edges.sentence(TERMS, "A method that is called an act records the state before it, unless it returns an error");
        SentenceRules rules = new SentenceRules();
        edges.due("undo() on a new object", rules.undo(), Checks.NONE);
        Checks.say(rules, "fee is 1");
        edges.due("undo() behind words and a number", rules.undo(), Checks.NONE);
        edges.due("clear()", rules.clear(), 3);
        edges.due("undo() behind clear()", rules.undo(), Checks.NONE);
        edges.due("tell() of nothing", rules.tell(), Checks.NOT_POSSIBLE);
        edges.due("undo() behind a refused tell()", rules.undo(), Checks.NONE);
        edges.due("retract(0)", rules.retract(0), Checks.NO_SUCH_SENTENCE);
        edges.due("undo() behind a refused retract()", rules.undo(), Checks.NONE);
        edges.due("setFact(0, 10000)", rules.setFact(0, 10000), Checks.BAD_VALUE);
        edges.due("setFact(7, 0)", rules.setFact(7, 0), Checks.BAD_VALUE);
        edges.due("undo() behind a refused setFact()", rules.undo(), Checks.NONE);
        Checks.tell(rules, "fee is 1");
        rules.setFact(0, 0);
        rules.retract(0);
        edges.due("undo() of retract()", rules.undo(), 2);
        edges.due("undo() of setFact() to the same value", rules.undo(), 1);
        edges.due("undo() of tell()", rules.undo(), 0);
        edges.due("undo() of nothing: undo() is no act", rules.undo(), Checks.NONE);
    }

    private void eightStates() {
        edges.sentence(TERMS, "At most 8 states are recorded");
        for (int acts = 0; acts <= 10; acts++) {
            SentenceRules rules = new SentenceRules();
            for (int i = 1; i <= acts; i++) {
                rules.setFact(0, i);
            }
            int recorded = Math.min(acts, 8);
            for (int left = recorded - 1; left >= 0; left--) {
                edges.due("undo() behind " + acts + " acts", rules.undo(), left);
            }
            edges.due("undo() of all behind " + acts + " acts", rules.undo(), Checks.NONE);
            edges.due("fact(0)", rules.fact(0), acts - recorded);
        }
    }

    private void oldestStateIsDropped() {
        edges.sentence(TERMS, "when one more is recorded, the oldest one is dropped");
        SentenceRules rules = new SentenceRules();
        for (int i = 0; i < 9; i++) {
            Checks.tell(rules, "fee is " + i);
        }
        for (int left = 7; left >= 0; left--) {
            edges.due("undo()", rules.undo(), left);
            edges.due("sentences()", rules.sentences(), left + 1);
            edges.due("the last one gives", rules.gives(left), left);
        }
        edges.due("undo() to the dropped one", rules.undo(), Checks.NONE);
        edges.due("sentences()", rules.sentences(), 1);
        // Recording goes on where undo has left off; what was undone is not recorded any more.
        rules.setFact(1, 5);
        for (int i = 1; i <= 9; i++) {
            rules.setFact(0, i);
        }
        rules.undo();
        rules.undo();
        rules.setFact(0, 100);
        edges.due("undo()", rules.undo(), 6);
        edges.due("fact(0)", rules.fact(0), 7);
        for (int left = 5; left >= 0; left--) {
            edges.due("undo()", rules.undo(), left);
            edges.due("fact(0)", rules.fact(0), left + 1);
        }
        edges.due("undo()", rules.undo(), Checks.NONE);
        edges.due("fact(1)", rules.fact(1), 5);
    }

    private void partsOfTheState() {
        edges.sentence(TERMS, "The state consists of the book, the facts and the present sentence");
        // The book, with the order and the text of its sentences.
        SentenceRules book = Checks.book("minor means age under 18", "if minor then fee is 1", "fee is 2");
        book.retract(1);
        book.retract(0);
        edges.due("undo()", book.undo(), 4);
        edges.due("undo()", book.undo(), 3);
        edges.dueText(book, 0, "minor means age under 18.");
        edges.dueText(book, 1, "if minor then fee is 1.");
        edges.dueText(book, 2, "fee is 2.");
        edges.due("uses(1)", book.uses(1), 1);
        edges.due("greatest(1, 0)", book.greatest(1, 0), 17);
        edges.due("sentences()", book.sentences(), 3);
        // Each fact.
        for (int fact = 0; fact < 7; fact++) {
            SentenceRules facts = new SentenceRules();
            int first = facts.fact(fact);
            facts.setFact(fact, 9);
            edges.due("undo()", facts.undo(), 0);
            edges.due("fact(" + fact + ")", facts.fact(fact), first);
        }
        // The present sentence, with what was said and removed since.
        SentenceRules present = new SentenceRules();
        Checks.say(present, "fee is 3 from 2000-01-01");
        present.setFact(0, 1);
        present.back();
        present.back();
        present.back();
        present.number(4);
        edges.due("undo()", present.undo(), 0);
        edges.due("tell()", present.tell(), 0);
        edges.dueText(present, 0, "fee is 3 from 2000-01-01.");
        edges.due("undo()", present.undo(), 0);
        edges.due("clear()", present.clear(), 5);
        edges.due("sentences()", present.sentences(), 0);
        SentenceRules empty = new SentenceRules();
        empty.setFact(0, 1);
        Checks.say(empty, "fee is 3");
        edges.due("undo()", empty.undo(), 0);
        edges.due("clear() of the sentence that was empty then", empty.clear(), 0);
    }

    // ---- errors

    private void errorsChangeNothing() {
        edges.sentence(TERMS, "A method that returns NO_SUCH_SENTENCE, BAD_VALUE, NOT_POSSIBLE or FULL changes nothing");
        edges.dueUnchanged(Scene.RICH, "retract(8)", rules -> rules.retract(8), Checks.NO_SUCH_SENTENCE);
        edges.dueUnchanged(Scene.RICH, "setFact(0, 10000)", rules -> rules.setFact(0, 10000), Checks.BAD_VALUE);
        edges.dueUnchanged(Scene.RICH, "retract(0)", rules -> rules.retract(0), Checks.NOT_POSSIBLE);
        edges.dueUnchanged(Scene.RICH, "tell()", SentenceRules::tell, Checks.NOT_POSSIBLE);
        edges.dueUnchanged(Scene.FULL_BOOK, "tell()", SentenceRules::tell, Checks.FULL);
        edges.dueUnchanged(Scene.FULL_SENTENCE, "word(8)", rules -> rules.word(8), Checks.FULL);
    }

    private void firstErrorIsReturned() {
        edges.sentence(TERMS, "If several of them apply, the one that is listed first in the @return line is returned");
        edges.dueUnchanged(Scene.FULL_SENTENCE, "word(26)", rules -> rules.word(26), Checks.BAD_VALUE);
        edges.dueUnchanged(Scene.FULL_SENTENCE, "number(10000)", rules -> rules.number(10000), Checks.BAD_VALUE);
        edges.dueUnchanged(Scene.FULL_SENTENCE, "date(1900, 2, 29)", rules -> rules.date(1900, 2, 29), Checks.BAD_VALUE);
        Scene incomplete = Scene.FULL_BOOK.after(SentenceRules::back);
        edges.dueUnchanged(incomplete, "tell()", SentenceRules::tell, Checks.NOT_POSSIBLE);
        edges.dueUnchanged(Scene.RICH, "least(8, 7)", rules -> rules.least(8, 7), Checks.NO_SUCH_SENTENCE);
        edges.dueUnchanged(Scene.RICH, "greatest(-1, -1)", rules -> rules.greatest(-1, -1), Checks.NO_SUCH_SENTENCE);
        edges.dueUnchanged(Scene.RICH, "character(8, -1)", rules -> rules.character(8, -1), Checks.NO_SUCH_SENTENCE);
    }

    private void noneAndRefusedComeLast() {
        edges.sentence(TERMS, "NONE and REFUSED are not errors");
        // An act that answers NONE would not be an error: setFact answers numbers, and undo is no act.
        SentenceRules rules = Checks.book("if age is 0 then fee is 1", "if size is 0 then fee is 2");
        edges.due("answer(0)", rules.answer(0), Checks.REFUSED);
        edges.due("answer(1)", rules.answer(1), Checks.NONE);
        edges.sentence(TERMS, "they are returned only if no error applies");
        edges.due("reason(4, 0)", rules.reason(4, 0), Checks.BAD_VALUE);
        edges.due("reason(1, -1)", rules.reason(1, -1), Checks.BAD_VALUE);
        edges.due("answerIf(0, 0, 10000)", rules.answerIf(0, 0, 10000), Checks.BAD_VALUE);
        edges.due("answerIf(1, 7, 0)", rules.answerIf(1, 7, 0), Checks.BAD_VALUE);
        edges.due("nextChange(1, 7)", rules.nextChange(1, 7), Checks.BAD_VALUE);
        edges.due("leastFor(1, 0, 10000)", rules.leastFor(1, 0, 10000), Checks.BAD_VALUE);
        edges.due("leastFor(1, 0, NONE)", rules.leastFor(1, 0, Checks.NONE), Checks.BAD_VALUE);
        edges.due("leastFor(0, 0, REFUSED)", rules.leastFor(0, 0, Checks.REFUSED), Checks.BAD_VALUE);
        edges.due("contradiction(-1)", rules.contradiction(-1), Checks.BAD_VALUE);
        edges.due("gives(2)", rules.gives(2), Checks.NO_SUCH_SENTENCE);
        edges.due("definition(6)", rules.definition(6), Checks.BAD_VALUE);
        edges.due("holds(6)", rules.holds(6), Checks.BAD_VALUE);
    }

    private void constants() {
        SentenceRules rules = Checks.book("fee is 1", "if age is 0 then rate is 1", "if size is 0 then rate is 2");
        edges.sentence(TERMS, "The constants");
        edges.sentence(TERMS, "NO_SUCH_SENTENCE = -100001");
        edges.due("NO_SUCH_SENTENCE", SentenceRules.NO_SUCH_SENTENCE, -100001);
        edges.sentence(TERMS, "The number does not belong to a sentence of the book");
        edges.due("about(3)", rules.about(3), -100001);
        edges.sentence(TERMS, "BAD_VALUE = -100002");
        edges.due("BAD_VALUE", SentenceRules.BAD_VALUE, -100002);
        edges.sentence(TERMS, "Another argument is out of range");
        edges.due("least(2, 7)", rules.least(2, 7), -100002);
        edges.sentence(TERMS, "NOT_POSSIBLE = -100003");
        edges.due("NOT_POSSIBLE", SentenceRules.NOT_POSSIBLE, -100003);
        edges.sentence(TERMS, "This is not possible at present");
        edges.due("back()", rules.back(), -100003);
        edges.sentence(TERMS, "FULL = -100004");
        edges.due("FULL", SentenceRules.FULL, -100004);
        edges.sentence(TERMS, "There is no more room");
        edges.due("word(8)", Scene.FULL_SENTENCE.make().word(8), -100004);
        edges.sentence(TERMS, "NONE = -100005");
        edges.due("NONE", SentenceRules.NONE, -100005);
        edges.sentence(TERMS, "There is no such value");
        edges.due("nextChange(0, 0)", rules.nextChange(0, 0), -100005);
        edges.sentence(TERMS, "REFUSED = -100006");
        edges.due("REFUSED", SentenceRules.REFUSED, -100006);
        edges.sentence(TERMS, "The reasons of the result contradict each other");
        edges.due("answer(1)", rules.answer(1), -100006);
    }
}
