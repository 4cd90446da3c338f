/** Promises 25 to 31: answer, reasons, reason, overridden, holds, compare, contradiction. */
final class EdgesOfAnswers {
    private static final int MIN = Edges.MIN;
    private static final int MAX = Edges.MAX;
    private static final int[] NO_RESULTS = {-1, 4, 10, MIN, MAX};

    private final Edges edges;

    EdgesOfAnswers(Edges edges) {
        this.edges = edges;
    }

    void run() {
        answers();
        noAnswer();
        refusedAnswer();
        numbersOfReasons();
        reasonsByIndex();
        reasonsBehindTheLast();
        overriddenRules();
        holdsAtTheBorders();
        holdsOfNoWord();
        comparisons();
        comparisonsOfNoSentence();
        pairsInOrder();
        mostPairs();
        pairsBehindTheLast();
    }

    private void dueNoResult(String name, java.util.function.IntFunction<Scene.Call> call) {
        for (int result : NO_RESULTS) {
            edges.dueUnchanged(Scene.RICH, name + " of result " + result, call.apply(result), Checks.BAD_VALUE);
        }
        edges.due(name + " of result 4 in an empty book", call.apply(4).on(new SentenceRules()), Checks.BAD_VALUE);
    }

    private void answers() {
        edges.sentence(25, "Returns the answer");
        edges.sentence(25, "result: 0 to 3");
        String[] results = {"fee", "rate", "limit", "grade"};
        for (int result = 0; result < 4; result++) {
            for (int number : new int[] {-9999, 0, 9999}) {
                SentenceRules rules = Checks.book(results[result] + " is " + number);
                for (int other = 0; other < 4; other++) {
                    edges.due("answer(" + other + ")", rules.answer(other), other == result ? number : Checks.NONE);
                }
            }
        }
        edges.dueUnchanged(Scene.RICH, "answer(0)", r -> r.answer(0), 2);
        edges.sentence(25, "BAD_VALUE if result is out of range");
        dueNoResult("answer", result -> rules -> rules.answer(result));
    }

    private void noAnswer() {
        edges.sentence(25, "NONE if there is no answer");
        edges.dueUnchanged(Scene.RICH, "answer(3)", r -> r.answer(3), Checks.NONE);
        SentenceRules rules = Checks.book("if age over 3 and age under 5 then fee is 0");
        int[] ages = {3, 4, 5};
        for (int age : ages) {
            rules.setFact(0, age);
            edges.due("answer(0) at the age of " + age, rules.answer(0), age == 4 ? 0 : Checks.NONE);
        }
    }

    private void refusedAnswer() {
        edges.sentence(25, "REFUSED if it is refused");
        edges.dueUnchanged(Scene.RICH, "answer(1)", r -> r.answer(1), Checks.REFUSED);
        SentenceRules rules = Checks.book("rate is 1 until 2000-01-01", "rate is 2 from 2000-01-01");
        int[] due = {1, Checks.REFUSED, 2};
        for (int i = 0; i < 3; i++) {
            rules.setFact(6, 36523 + i);
            edges.due("answer(1) on day " + (36523 + i), rules.answer(1), due[i]);
        }
    }

    private void numbersOfReasons() {
        edges.sentence(26, "Returns the number of its reasons");
        edges.sentence(26, "result: 0 to 3");
        SentenceRules rules = new SentenceRules();
        for (int count = 0; count < 16; count++) {
            edges.due("reasons(3)", rules.reasons(3), count);
            edges.due("reasons(0)", rules.reasons(0), 0);
            Checks.tell(rules, "grade is " + count % 2);
        }
        edges.due("reasons(3) of a full book", rules.reasons(3), 16);
        edges.due("answer(3)", rules.answer(3), Checks.REFUSED);
        edges.dueUnchanged(Scene.RICH, "reasons(1)", r -> r.reasons(1), 2);
        edges.dueUnchanged(Scene.RICH, "reasons(0)", r -> r.reasons(0), 1);
        edges.sentence(26, "BAD_VALUE if result is out of range");
        dueNoResult("reasons", result -> r -> r.reasons(result));
    }

    private void reasonsByIndex() {
        edges.sentence(27, "Returns the number of the sentence that is the reason with this index");
        edges.sentence(27, "result: 0 to 3");
        edges.sentence(27, "index: 0 or more");
        SentenceRules rules = new SentenceRules();
        for (int i = 0; i < 16; i++) {
            Checks.tell(rules, "if age is 0 and size under " + (9999 - i / 2) + " then limit is 1");
        }
        edges.due("reasons(2) of pairs of equal regions, one in the other", rules.reasons(2), 2);
        edges.due("reason(2, 0)", rules.reason(2, 0), 14);
        edges.due("reason(2, 1)", rules.reason(2, 1), 15);
        // Numbers behind one another as their sharpness falls, and back as it rises.
        SentenceRules rising = Checks.book("fee is 1 from 2000-01-01", "if age is 0 and size is 0 then fee is 1",
                "if income is 0 and count is 0 and birth is 1900-01-01 then fee is 1", "if age under 1 then fee is 1",
                "if entry is 1900-01-01 and count under 2 then fee is 1");
        int[] due = {2, 1, 4, 0, Checks.NONE};
        for (int i = 0; i < due.length; i++) {
            edges.due("reason(0, " + i + ")", rising.reason(0, i), due[i]);
        }
        edges.dueUnchanged(Scene.RICH, "reason(1, 1)", r -> r.reason(1, 1), 5);
    }

    private void reasonsBehindTheLast() {
        edges.sentence(27, "BAD_VALUE if an argument is out of range");
        dueNoResult("reason 0", result -> rules -> rules.reason(result, 0));
        dueNoResult("reason -1", result -> rules -> rules.reason(result, -1));
        dueNoResult("reason 99", result -> rules -> rules.reason(result, 99));
        edges.dueUnchanged(Scene.RICH, "reason(1, -1)", r -> r.reason(1, -1), Checks.BAD_VALUE);
        edges.dueUnchanged(Scene.RICH, "reason(3, -1) of no reasons", r -> r.reason(3, -1), Checks.BAD_VALUE);
        edges.dueUnchanged(Scene.RICH, "reason(0, min)", r -> r.reason(0, MIN), Checks.BAD_VALUE);
        edges.sentence(27, "NONE if there are not so many reasons");
        edges.dueUnchanged(Scene.RICH, "reason(3, 0)", r -> r.reason(3, 0), Checks.NONE);
        edges.dueUnchanged(Scene.RICH, "reason(0, 1)", r -> r.reason(0, 1), Checks.NONE);
        edges.dueUnchanged(Scene.RICH, "reason(1, 2)", r -> r.reason(1, 2), Checks.NONE);
        edges.dueUnchanged(Scene.RICH, "reason(1, max)", r -> r.reason(1, MAX), Checks.NONE);
        SentenceRules rules = new SentenceRules();
        for (int i = 0; i < 16; i++) {
            Checks.tell(rules, "fee is 1");
            edges.due("reason(0, " + i + ")", rules.reason(0, i), i);
            edges.due("reason(0, " + (i + 1) + ")", rules.reason(0, i + 1), Checks.NONE);
        }
    }

    private void overriddenRules() {
        edges.sentence(28, "Returns the number of rules for it that apply and are overridden");
        edges.sentence(28, "result: 0 to 3");
        SentenceRules rules = new SentenceRules();
        for (int i = 0; i < 16; i++) {
            edges.due("overridden(3)", rules.overridden(3), Math.max(0, i - 1));
            Checks.tell(rules, "if entry under " + Edges.said(5, 100 - i) + " then grade is 1");
        }
        edges.due("overridden(3) of a full book", rules.overridden(3), 15);
        edges.due("overridden(0)", rules.overridden(0), 0);
        // Of those within others only such as apply count.
        rules.setFact(5, 84);
        edges.due("overridden(3) with all", rules.overridden(3), 15);
        rules.setFact(5, 85);
        edges.due("overridden(3) with all but the last", rules.overridden(3), 14);
        rules.setFact(5, 98);
        edges.due("overridden(3) with two that apply", rules.overridden(3), 1);
        rules.setFact(5, 99);
        edges.due("overridden(3) with one that applies", rules.overridden(3), 0);
        edges.due("reasons(3)", rules.reasons(3), 1);
        rules.setFact(5, 100);
        edges.due("overridden(3) with none", rules.overridden(3), 0);
        edges.due("reasons(3)", rules.reasons(3), 0);
        edges.dueUnchanged(Scene.RICH, "overridden(0)", r -> r.overridden(0), 1);
        edges.sentence(28, "BAD_VALUE if result is out of range");
        dueNoResult("overridden", result -> r -> r.overridden(result));
    }

    private void holdsAtTheBorders() {
        edges.sentence(29, "Returns 1 if the region of its definition contains the present facts, 0 if not");
        edges.sentence(29, "word: 0 to 5");
        String[] words = {"minor", "senior", "small", "large", "early", "late"};
        for (int word = 0; word < 6; word++) {
            for (int fact = 0; fact < 6; fact++) {
                String rule = Edges.ruleWithin(fact, 10, 20, 1);
                SentenceRules rules = Checks.book(rule.replace("if ", words[word] + " means ").replace(" then fee is 1", ""));
                int[] values = {9, 10, 20, 21};
                for (int i = 0; i < values.length; i++) {
                    rules.setFact(fact, values[i]);
                    edges.due("holds(" + word + ") with fact " + fact + " of " + values[i], rules.holds(word),
                            i == 1 || i == 2 ? 1 : 0);
                }
                rules.setFact(6, 0);
                edges.due("holds(" + word + ")", rules.holds(word), 0);
            }
        }
        edges.dueUnchanged(Scene.RICH, "holds(0)", r -> r.holds(0), 1);
        edges.due("holds(2) by a word", Checks.book("minor means age is 1", "small means minor").holds(2), 0);
    }

    private void holdsOfNoWord() {
        edges.sentence(29, "BAD_VALUE if word is out of range");
        for (int word : new int[] {-1, 6, 16, -10, MIN, MAX}) {
            edges.dueUnchanged(Scene.RICH, "holds(" + word + ")", r -> r.holds(word), Checks.BAD_VALUE);
        }
        edges.sentence(29, "NONE if it has no definition");
        for (int word : new int[] {1, 3, 4}) {
            edges.dueUnchanged(Scene.RICH, "holds(" + word + ")", r -> r.holds(word), Checks.NONE);
        }
        SentenceRules rules = Checks.book("late means age is 0");
        edges.due("holds(5)", rules.holds(5), 1);
        rules.retract(0);
        edges.due("holds(5) behind retract()", rules.holds(5), Checks.NONE);
        rules.undo();
        edges.due("holds(5) behind undo()", rules.holds(5), 1);
    }

    private void dueComparison(int fact, int[] first, int[] second, int want) {
        SentenceRules rules = Checks.book(Edges.ruleWithin(fact, first[0], first[1], 1),
                Edges.ruleWithin(fact, second[0], second[1], 2));
        String name = " of " + first[0] + ".." + first[1] + " and " + second[0] + ".." + second[1] + " of fact " + fact;
        edges.due("compare(0, 1)" + name, rules.compare(0, 1), want);
        int reversed = want == 1 ? 2 : want == 2 ? 1 : want;
        edges.due("compare(1, 0)" + name, rules.compare(1, 0), reversed);
        edges.due("compare(0, 0)" + name, rules.compare(0, 0), 0);
        edges.due("compare(1, 1)" + name, rules.compare(1, 1), 0);
    }

    private void comparisons() {
        edges.sentence(30, "Compares the regions of two sentences");
        int[] middle = {10, 20};
        for (int fact = 0; fact < 7; fact++) {
            edges.sentence(30, "Returns 0 if they are equal");
            dueComparison(fact, middle, new int[] {10, 20}, 0);
            edges.sentence(30, "1 if that of a is strictly inside that of b");
            dueComparison(fact, middle, new int[] {9, 20}, 1);
            dueComparison(fact, middle, new int[] {10, 21}, 1);
            dueComparison(fact, middle, new int[] {9, 21}, 1);
            edges.sentence(30, "2 if that of b is strictly inside that of a");
            dueComparison(fact, middle, new int[] {11, 20}, 2);
            dueComparison(fact, middle, new int[] {10, 19}, 2);
            dueComparison(fact, middle, new int[] {15, 15}, 2);
            edges.sentence(30, "3 if neither, and there are values that both contain");
            dueComparison(fact, middle, new int[] {11, 21}, 3);
            dueComparison(fact, middle, new int[] {9, 19}, 3);
            dueComparison(fact, middle, new int[] {20, 30}, 3);
            dueComparison(fact, middle, new int[] {0, 10}, 3);
            edges.sentence(30, "4 if there are none");
            dueComparison(fact, middle, new int[] {21, 30}, 4);
            dueComparison(fact, middle, new int[] {0, 9}, 4);
        }
        // Apart for one fact is apart, however near they are for the others.
        SentenceRules rules = Checks.book("if age is 1 and size is 1 then fee is 1", "if age is 1 and size is 2 then fee is 1",
                "minor means age is 1", "if age is 2 then rate is 1");
        edges.due("compare(0, 1)", rules.compare(0, 1), 4);
        edges.due("compare(0, 2), a rule and a definition", rules.compare(0, 2), 1);
        edges.due("compare(2, 3)", rules.compare(2, 3), 4);
        edges.dueUnchanged(Scene.RICH, "compare(0, 1)", r -> r.compare(0, 1), 2);
    }

    private void comparisonsOfNoSentence() {
        edges.sentence(30, "a: number of a sentence");
        edges.sentence(30, "b: number of a sentence");
        edges.due("compare(15, 14) of a full book", Scene.FULL_BOOK.make().compare(15, 14), 0);
        edges.due("compare(0, 7)", Scene.RICH.make().compare(0, 7), 3);
        edges.sentence(30, "NO_SUCH_SENTENCE");
        for (int wrong : new int[] {-1, 8, 16, MIN, MAX}) {
            edges.dueUnchanged(Scene.RICH, "compare(" + wrong + ", 0)", r -> r.compare(wrong, 0), Checks.NO_SUCH_SENTENCE);
            edges.dueUnchanged(Scene.RICH, "compare(7, " + wrong + ")", r -> r.compare(7, wrong), Checks.NO_SUCH_SENTENCE);
            edges.dueUnchanged(Scene.RICH, "compare(" + wrong + ", same)", r -> r.compare(wrong, wrong),
                    Checks.NO_SUCH_SENTENCE);
        }
        edges.due("compare(0, 0) of an empty book", new SentenceRules().compare(0, 0), Checks.NO_SUCH_SENTENCE);
        edges.due("compare(16, 15) of a full book", Scene.FULL_BOOK.make().compare(16, 15), Checks.NO_SUCH_SENTENCE);
    }

    private void pairsInOrder() {
        edges.sentence(31, "Returns a pair of rules that contradict each other");
        edges.sentence(31, "The pairs a, b with a < b are ordered by a, then by b");
        edges.sentence(31, "Returns 100 * a + b for the pair with this index");
        SentenceRules rules = Checks.book("if age over 3 then fee is 1", "if size over 3 then fee is 2",
                "if count over 3 then fee is 1", "rate is 1", "if income over 3 then fee is 2", "minor means age is 1");
        int[] due = {1, 4, 102, 204};
        for (int i = 0; i < due.length; i++) {
            edges.due("contradiction(" + i + ")", rules.contradiction(i), due[i]);
        }
        edges.due("contradiction(4)", rules.contradiction(4), Checks.NONE);
        edges.dueUnchanged(Scene.RICH, "contradiction(0)", r -> r.contradiction(0), 405);
        // Behind a sentence that is removed, the pairs have the numbers that are then.
        rules.retract(0);
        edges.due("contradiction(0) behind retract(0)", rules.contradiction(0), 1);
        edges.due("contradiction(1) behind retract(0)", rules.contradiction(1), 103);
        edges.due("contradiction(2) behind retract(0)", rules.contradiction(2), Checks.NONE);
    }

    /** Each of sixteen rules contradicts each other one: no region is common to two and told. */
    private void mostPairs() {
        edges.sentence(31, "index: 0 or more");
        SentenceRules rules = new SentenceRules();
        for (int i = 0; i < 16; i++) {
            Checks.tell(rules, "if age over " + i + " and age under " + (100 + i) + " then fee is " + i);
        }
        int index = 0;
        for (int a = 0; a < 16; a++) {
            for (int b = a + 1; b < 16; b++) {
                edges.due("contradiction(" + index + ")", rules.contradiction(index), 100 * a + b);
                index++;
            }
        }
        edges.due("contradiction(120)", rules.contradiction(120), Checks.NONE);
        edges.due("contradiction(119)", rules.contradiction(119), 1415);
    }

    private void pairsBehindTheLast() {
        edges.sentence(31, "BAD_VALUE if index is negative");
        edges.dueUnchanged(Scene.RICH, "contradiction(-1)", r -> r.contradiction(-1), Checks.BAD_VALUE);
        edges.dueUnchanged(Scene.RICH, "contradiction(min)", r -> r.contradiction(MIN), Checks.BAD_VALUE);
        edges.due("contradiction(-1) of an empty book", new SentenceRules().contradiction(-1), Checks.BAD_VALUE);
        edges.sentence(31, "NONE if there are not so many");
        edges.dueUnchanged(Scene.RICH, "contradiction(1)", r -> r.contradiction(1), Checks.NONE);
        edges.dueUnchanged(Scene.RICH, "contradiction(max)", r -> r.contradiction(MAX), Checks.NONE);
        edges.dueUnchanged(Scene.FRESH, "contradiction(0)", r -> r.contradiction(0), Checks.NONE);
    }
}
