/** Promises 32 to 35: answerIf, nextChange, leastFor, matters. Each is asked behind a look that nothing changes. */
final class EdgesOfWhatIf {
    private static final int MIN = Edges.MIN;
    private static final int MAX = Edges.MAX;

    private final Edges edges;

    EdgesOfWhatIf(Edges edges) {
        this.edges = edges;
    }

    void run() {
        answersIf();
        answersIfOfWrongArguments();
        noneOrRefusedIf();
        nextChangeAtTheBorders();
        nextChangeOfKinds();
        nextChangeBehindManyBorders();
        nextChangeOfWrongArguments();
        noNextChange();
        leastForAtTheBorders();
        leastForOfAllValues();
        leastForBehindManyBorders();
        leastForOfWrongArguments();
        noLeastFor();
        mattersNow();
        mattersOfDefinitions();
        mattersOfNoSentence();
    }

    // ---- answerIf

    private void answersIf() {
        edges.sentence(32, "Returns the answer that there would be if the fact had this value");
        edges.sentence(32, "value: a value of this fact");
        for (int fact = 0; fact < 7; fact++) {
            int lowest = Edges.lowest(fact);
            int highest = Edges.highest(fact);
            SentenceRules rules = Checks.book("fee is 1", Edges.ruleWithin(fact, 10, 20, 2),
                    Edges.ruleWithin(fact, lowest, lowest, 3), Edges.ruleWithin(fact, highest, highest, 4));
            int[] values = {lowest, lowest + 1, 9, 10, 20, 21, highest - 1, highest};
            int[] due = {3, 1, 1, 2, 2, 1, 1, 4};
            for (int i = 0; i < values.length; i++) {
                edges.due("answerIf(0, " + fact + ", " + values[i] + ")", rules.answerIf(0, fact, values[i]), due[i]);
            }
            edges.due("fact(" + fact + ")", rules.fact(fact), fact == 6 ? 36524 : 0);
        }
        // The other facts stay the present ones, also behind another supposed value.
        SentenceRules two = Checks.book("if age is 1 and size is 1 then fee is 1");
        edges.due("answerIf(0, 0, 1)", two.answerIf(0, 0, 1), Checks.NONE);
        edges.due("answerIf(0, 2, 1)", two.answerIf(0, 2, 1), Checks.NONE);
        two.setFact(2, 1);
        edges.due("answerIf(0, 0, 1)", two.answerIf(0, 0, 1), 1);
        edges.due("answerIf(0, 0, 2)", two.answerIf(0, 0, 2), Checks.NONE);
        edges.due("answer(0)", two.answer(0), Checks.NONE);
        edges.dueUnchanged(Scene.RICH, "answerIf(0, 0, 18)", r -> r.answerIf(0, 0, 18), 1);
    }

    private void answersIfOfWrongArguments() {
        edges.sentence(32, "BAD_VALUE if an argument is out of range");
        edges.sentence(32, "result: 0 to 3");
        edges.due("answerIf(0, 0, 0)", Scene.RICH.make().answerIf(0, 0, 0), 2);
        edges.due("answerIf(3, 0, 0)", Scene.RICH.make().answerIf(3, 0, 0), Checks.NONE);
        for (int result : new int[] {-1, 4, MIN, MAX}) {
            edges.dueUnchanged(Scene.RICH, "answerIf(" + result + ", 0, 0)", r -> r.answerIf(result, 0, 0), Checks.BAD_VALUE);
        }
        edges.sentence(32, "fact: 0 to 6");
        for (int fact : new int[] {-1, 7, MIN, MAX}) {
            edges.dueUnchanged(Scene.RICH, "answerIf(0, " + fact + ", 0)", r -> r.answerIf(0, fact, 0), Checks.BAD_VALUE);
        }
        edges.sentence(32, "value: a value of this fact");
        for (int fact = 0; fact < 7; fact++) {
            int number = fact;
            for (int value : new int[] {Edges.lowest(fact) - 1, Edges.highest(fact) + 1, MIN, MAX}) {
                edges.dueUnchanged(Scene.RICH, "answerIf(0, " + fact + ", " + value + ")",
                        r -> r.answerIf(0, number, value), Checks.BAD_VALUE);
            }
            edges.due("the lowest of fact " + fact, Checks.book("fee is 1").answerIf(0, fact, Edges.lowest(fact)), 1);
            edges.due("the highest of fact " + fact, Checks.book("fee is 1").answerIf(0, fact, Edges.highest(fact)), 1);
        }
    }

    private void noneOrRefusedIf() {
        edges.sentence(32, "NONE or REFUSED as in answer");
        SentenceRules rules = Checks.book("if age over 3 then fee is 1", "if age under 5 then fee is 2");
        edges.due("answerIf(0, 0, 3)", rules.answerIf(0, 0, 3), 2);
        edges.due("answerIf(0, 0, 4)", rules.answerIf(0, 0, 4), Checks.REFUSED);
        edges.due("answerIf(0, 0, 5)", rules.answerIf(0, 0, 5), 1);
        edges.due("answerIf(1, 0, 5)", rules.answerIf(1, 0, 5), Checks.NONE);
        edges.dueUnchanged(Scene.RICH, "answerIf(1, 6, 36524)", r -> r.answerIf(1, 6, 36524), Checks.REFUSED);
        edges.dueUnchanged(Scene.RICH, "answerIf(2, 0, 1)", r -> r.answerIf(2, 0, 1), Checks.NONE);
        edges.due("answerIf(0, 0, 0) of an empty book", new SentenceRules().answerIf(0, 0, 0), Checks.NONE);
    }

    // ---- nextChange

    private void nextChangeAtTheBorders() {
        edges.sentence(33, "Finds the next change of an answer");
        edges.sentence(33, "Returns the least value of the fact, greater than the present one, with which the answer would be "
                + "another one than now");
        for (int fact = 0; fact < 7; fact++) {
            SentenceRules rules = Checks.book(Edges.ruleWithin(fact, 10, 20, 1));
            int[] present = {Edges.lowest(fact), 8, 9, 10, 11, 19, 20, 21, Edges.highest(fact)};
            int[] due = {10, 10, 10, 21, 21, 21, 21, Checks.NONE, Checks.NONE};
            for (int i = 0; i < present.length; i++) {
                rules.setFact(fact, present[i]);
                edges.due("nextChange(0, " + fact + ") from " + present[i], rules.nextChange(0, fact), due[i]);
                edges.due("fact(" + fact + ")", rules.fact(fact), present[i]);
            }
            // Up to the highest value, and no further.
            int highest = Edges.highest(fact);
            SentenceRules last = Checks.book(Edges.ruleWithin(fact, highest, highest, 1));
            last.setFact(fact, highest - 1);
            edges.due("nextChange(0, " + fact + ") to the highest", last.nextChange(0, fact), highest);
            last.setFact(fact, highest);
            edges.due("nextChange(0, " + fact + ") from the highest", last.nextChange(0, fact), Checks.NONE);
            SentenceRules first = Checks.book(Edges.ruleWithin(fact, Edges.lowest(fact), Edges.lowest(fact), 1));
            first.setFact(fact, Edges.lowest(fact));
            edges.due("nextChange(0, " + fact + ") from the lowest", first.nextChange(0, fact), Edges.lowest(fact) + 1);
            SentenceRules end = Checks.book(Edges.ruleWithin(fact, Edges.lowest(fact), highest - 1, 1));
            edges.due("nextChange(0, " + fact + ") where the rule ends", end.nextChange(0, fact), highest);
        }
        edges.dueUnchanged(Scene.RICH, "nextChange(0, 0)", r -> r.nextChange(0, 0), 18);
        edges.dueUnchanged(Scene.RICH, "nextChange(1, 6)", r -> r.nextChange(1, 6), 36525);
    }

    private void nextChangeOfKinds() {
        edges.sentence(33, "(no answer and a refused one are also other ones)");
        String one = "if age over 9 then fee is 1";
        String two = "if age over 9 and size over -9 then fee is 2";
        String three = "if age over 9 and count over -9 then fee is 3";
        dueChange(10, one);
        dueChange(10, two, three);
        dueChange(Checks.NONE, "if age under -9 then fee is 1");
        dueChange(10, "if age under 10 then fee is 1");
        dueChange(10, "if age under 10 then fee is 1", "if age under 10 then fee is 2");
        dueChange(10, "if size is 0 then fee is 2", three);
        dueChange(10, "fee is 1", "if age under 10 then fee is 2");
        dueChange(10, "if size is 0 then fee is 1", "if age under 10 then fee is 2");
        // One number for another, with the same number for other reasons in between.
        dueChange(30, "if age under 10 then fee is 1", "if age over 9 and age under 20 then fee is 1",
                "if age over 19 and age under 30 then fee is 1", "if age over 29 then fee is 2");
        dueChange(20, "if age under 10 then fee is 1", "if age over 5 and age under 20 then fee is 1");
        // Refused for other reasons is no other answer.
        dueChange(20, "if age under 10 then fee is 1", "if age over 9 and age under 20 then fee is 3",
                "if size is 0 then fee is 2");
        // What comes below the present value is not next.
        dueChange(Checks.NONE, "if age under 0 then fee is 1", "if age over -5 then fee is 1");
    }

    private void dueChange(int want, String... sentences) {
        SentenceRules rules = Checks.book(sentences);
        edges.due("nextChange(0, 0) of " + String.join(", ", sentences), rules.nextChange(0, 0), want);
    }

    /** Sixteen rules begin or end at 31 values above the present one, and only the last of these is a change. */
    private void nextChangeBehindManyBorders() {
        edges.sentence(33, "Returns the least value of the fact, greater than the present one");
        for (int fact = 0; fact < 7; fact++) {
            SentenceRules rules = Checks.book(Edges.ruleWithin(fact, Edges.lowest(fact), 299, 1));
            for (int i = 1; i <= 15; i++) {
                Checks.tell(rules, Edges.ruleWithin(fact, 10 * i, 10 * i + 4, 1));
            }
            rules.setFact(fact, 5);
            edges.due("nextChange(0, " + fact + ")", rules.nextChange(0, fact), 300);
            edges.due("sentences()", rules.sentences(), 16);
        }
    }

    private void nextChangeOfWrongArguments() {
        edges.sentence(33, "BAD_VALUE if an argument is out of range");
        edges.sentence(33, "result: 0 to 3");
        edges.due("nextChange(3, 6)", Checks.book("grade is 1 from 2000-01-02").nextChange(3, 6), 36525);
        for (int result : new int[] {-1, 4, MIN, MAX}) {
            edges.dueUnchanged(Scene.RICH, "nextChange(" + result + ", 0)", r -> r.nextChange(result, 0), Checks.BAD_VALUE);
        }
        edges.sentence(33, "fact: 0 to 6");
        for (int fact : new int[] {-1, 7, MIN, MAX}) {
            edges.dueUnchanged(Scene.RICH, "nextChange(0, " + fact + ")", r -> r.nextChange(0, fact), Checks.BAD_VALUE);
        }
    }

    private void noNextChange() {
        edges.sentence(33, "NONE if there is no such value");
        edges.dueUnchanged(Scene.RICH, "nextChange(3, 0)", r -> r.nextChange(3, 0), Checks.NONE);
        edges.dueUnchanged(Scene.RICH, "nextChange(0, 1)", r -> r.nextChange(0, 1), Checks.NONE);
        for (int fact = 0; fact < 7; fact++) {
            edges.due("nextChange of an empty book", new SentenceRules().nextChange(0, fact), Checks.NONE);
            edges.due("nextChange of one answer", Checks.book("fee is 1").nextChange(0, fact), Checks.NONE);
            SentenceRules same = Checks.book("fee is 1", Edges.ruleWithin(fact, 10, 20, 1));
            same.setFact(fact, 5);
            edges.due("nextChange to the same answer", same.nextChange(0, fact), Checks.NONE);
        }
    }

    // ---- leastFor

    private void leastForAtTheBorders() {
        edges.sentence(34, "Finds a value of a fact for an answer");
        edges.sentence(34, "wanted: -9999 to 9999");
        for (int fact = 0; fact < 7; fact++) {
            int lowest = Edges.lowest(fact);
            int highest = Edges.highest(fact);
            SentenceRules rules = Checks.book("fee is 0", Edges.ruleWithin(fact, lowest, lowest, -9999),
                    Edges.ruleWithin(fact, lowest + 1, lowest + 1, 2), Edges.ruleWithin(fact, 10, 20, 3),
                    Edges.ruleWithin(fact, highest, highest, 9999));
            int[] wanted = {-9999, 2, 0, 3, 9999, 1};
            int[] due = {lowest, lowest + 1, lowest + 2, 10, highest, Checks.NONE};
            for (int i = 0; i < wanted.length; i++) {
                edges.due("leastFor(0, " + fact + ", " + wanted[i] + ")", rules.leastFor(0, fact, wanted[i]), due[i]);
            }
            edges.due("fact(" + fact + ")", rules.fact(fact), fact == 6 ? 36524 : 0);
        }
        edges.dueUnchanged(Scene.RICH, "leastFor(0, 0, 1)", r -> r.leastFor(0, 0, 1), 18);
    }

    private void leastForOfAllValues() {
        edges.sentence(34, "Returns the least value of the fact, of all that it can have, with which the answer would be the "
                + "wanted number");
        for (int fact = 0; fact < 7; fact++) {
            // Where a refused answer and no answer come first, below, at and above the present value.
            SentenceRules rules = Checks.book(Edges.ruleWithin(fact, 10, 19, 1), Edges.ruleWithin(fact, 15, 29, 2));
            int[] present = {Edges.lowest(fact), 10, 15, 20, 25, 30, Edges.highest(fact)};
            for (int value : present) {
                rules.setFact(fact, value);
                edges.due("leastFor(0, " + fact + ", 1) at " + value, rules.leastFor(0, fact, 1), 10);
                edges.due("leastFor(0, " + fact + ", 2) at " + value, rules.leastFor(0, fact, 2), 20);
            }
        }
        SentenceRules again = Checks.book("fee is 1", "if age not over 5 then fee is 2", "if age over 7 and age under 9 then fee is 2");
        edges.due("leastFor(0, 0, 2)", again.leastFor(0, 0, 2), -9999);
        edges.due("leastFor(0, 0, 1)", again.leastFor(0, 0, 1), 6);
        edges.due("leastFor(0, 1, 2) by a fact that is no matter", again.leastFor(0, 1, 2), -9999);
        edges.due("leastFor(0, 4, 2) by a date that is no matter", again.leastFor(0, 4, 2), 0);
        again.setFact(0, 6);
        edges.due("leastFor(0, 1, 2)", again.leastFor(0, 1, 2), Checks.NONE);
    }

    /** Sixteen rules begin or end at 31 values before the answer is no more refused. */
    private void leastForBehindManyBorders() {
        edges.sentence(34, "Returns the least value of the fact, of all that it can have");
        for (int fact = 0; fact < 7; fact++) {
            SentenceRules rules = Checks.book(Edges.ruleWithin(fact, 50, 300, 2));
            for (int i = 0; i < 15; i++) {
                Checks.tell(rules, Edges.ruleWithin(fact, 10 + i, 100 + i, 1));
            }
            edges.due("leastFor(0, " + fact + ", 2)", rules.leastFor(0, fact, 2), 115);
            edges.due("leastFor(0, " + fact + ", 1)", rules.leastFor(0, fact, 1), 10);
            edges.due("sentences()", rules.sentences(), 16);
        }
    }

    private void leastForOfWrongArguments() {
        edges.sentence(34, "BAD_VALUE if an argument is out of range");
        edges.sentence(34, "result: 0 to 3");
        edges.due("leastFor(3, 6, 1)", Checks.book("grade is 1 from 2000-01-02").leastFor(3, 6, 1), 36525);
        for (int result : new int[] {-1, 4, MIN, MAX}) {
            edges.dueUnchanged(Scene.RICH, "leastFor(" + result + ", 0, 1)", r -> r.leastFor(result, 0, 1), Checks.BAD_VALUE);
        }
        edges.sentence(34, "fact: 0 to 6");
        for (int fact : new int[] {-1, 7, MIN, MAX}) {
            edges.dueUnchanged(Scene.RICH, "leastFor(0, " + fact + ", 1)", r -> r.leastFor(0, fact, 1), Checks.BAD_VALUE);
        }
        edges.sentence(34, "wanted: -9999 to 9999");
        for (int wanted : new int[] {-10000, 10000, Checks.NONE, Checks.REFUSED, MIN, MAX}) {
            edges.dueUnchanged(Scene.RICH, "leastFor(1, 6, " + wanted + ")", r -> r.leastFor(1, 6, wanted), Checks.BAD_VALUE);
        }
    }

    private void noLeastFor() {
        edges.sentence(34, "NONE if there is no such value");
        edges.dueUnchanged(Scene.RICH, "leastFor(0, 0, 7)", r -> r.leastFor(0, 0, 7), Checks.NONE);
        edges.dueUnchanged(Scene.RICH, "leastFor(3, 0, 0)", r -> r.leastFor(3, 0, 0), Checks.NONE);
        edges.dueUnchanged(Scene.FRESH, "leastFor(0, 0, 9999)", r -> r.leastFor(0, 0, 9999), Checks.NONE);
        edges.dueUnchanged(Scene.FRESH, "leastFor(0, 6, -9999)", r -> r.leastFor(0, 6, -9999), Checks.NONE);
        // A number that one of the reasons gives is not the answer where it is refused.
        SentenceRules rules = Checks.book("if age over 3 and age under 5 then fee is 1", "if size is 0 then fee is 2");
        edges.due("leastFor(0, 0, 1)", rules.leastFor(0, 0, 1), Checks.NONE);
        edges.due("leastFor(0, 0, 2)", rules.leastFor(0, 0, 2), -9999);
        edges.due("leastFor(0, 2, 1)", rules.leastFor(0, 2, 1), Checks.NONE);
        rules.setFact(0, 4);
        edges.due("leastFor(0, 2, 1)", rules.leastFor(0, 2, 1), -9999);
        edges.due("leastFor(0, 2, 2)", rules.leastFor(0, 2, 2), Checks.NONE);
    }

    // ---- matters

    private void dueMatters(int[] want, String... sentences) {
        SentenceRules rules = Checks.book(sentences);
        for (int i = 0; i < want.length; i++) {
            edges.due("matters(" + i + ") of " + String.join(", ", sentences), rules.matters(i), want[i]);
        }
        edges.due("sentences()", rules.sentences(), sentences.length);
    }

    private void mattersNow() {
        edges.sentence(35, "Tells how many answers would change without a sentence");
        edges.sentence(35, "Returns the number of results whose answer would be another one now if this sentence, "
                + "if it is a rule, was not in the book");
        // An answer that would be none, another number, or refused; and a refused one that would be a number, or stay.
        dueMatters(new int[] {1}, "fee is 0");
        dueMatters(new int[] {0, 1}, "fee is 1", "if age is 0 then fee is 2");
        dueMatters(new int[] {0, 0}, "fee is 1", "if age is 0 then fee is 1");
        dueMatters(new int[] {0, 0}, "fee is 1", "fee is 1");
        dueMatters(new int[] {1, 1}, "fee is 1", "fee is 2");
        dueMatters(new int[] {0, 0, 0}, "fee is 1", "fee is 2", "fee is 3");
        dueMatters(new int[] {0, 0, 1}, "fee is 1", "fee is 1", "fee is 2");
        dueMatters(new int[] {0, 0, 1}, "if age is 0 then fee is 1", "if size is 0 then fee is 2",
                "if age is 0 and size is 0 then fee is 3");
        // Only now: rules that do not apply are no matter, and rules for other results are apart.
        dueMatters(new int[] {1, 0}, "fee is 1", "if age is 1 then fee is 2");
        dueMatters(new int[] {1, 1, 1, 1}, "fee is 1", "rate is 1", "limit is 1", "grade is 1");
        SentenceRules rules = Checks.book("fee is 1", "if age is 1 then fee is 2");
        rules.setFact(0, 1);
        edges.due("matters(0)", rules.matters(0), 0);
        edges.due("matters(1)", rules.matters(1), 1);
        edges.dueUnchanged(Scene.RICH, "matters(3)", r -> r.matters(3), 1);
        edges.dueUnchanged(Scene.RICH, "matters(2)", r -> r.matters(2), 0);
    }

    private void mattersOfDefinitions() {
        edges.sentence(35, "(0 for a definition)");
        edges.dueUnchanged(Scene.RICH, "matters(0)", r -> r.matters(0), 0);
        edges.dueUnchanged(Scene.RICH, "matters(7)", r -> r.matters(7), 0);
        dueMatters(new int[] {0, 1}, "minor means age is 0", "if minor then fee is 1");
    }

    private void mattersOfNoSentence() {
        edges.sentence(35, "sentence: number of a sentence");
        edges.due("matters(15)", Scene.FULL_BOOK.make().matters(15), 1);
        edges.sentence(35, "NO_SUCH_SENTENCE");
        for (int sentence : new int[] {-1, 8, 16, MIN, MAX}) {
            edges.dueUnchanged(Scene.RICH, "matters(" + sentence + ")", r -> r.matters(sentence), Checks.NO_SUCH_SENTENCE);
        }
        edges.due("matters(0) of an empty book", new SentenceRules().matters(0), Checks.NO_SUCH_SENTENCE);
        edges.due("matters(16) of a full book", Scene.FULL_BOOK.make().matters(16), Checks.NO_SUCH_SENTENCE);
    }
}
