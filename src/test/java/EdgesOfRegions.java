/** The terms of regions: the limits of each fact, what narrows them, empty and equal regions, sharpness. */
final class EdgesOfRegions {
    private static final int TERMS = Edges.TERMS;

    private final Edges edges;

    EdgesOfRegions(Edges edges) {
        this.edges = edges;
    }

    void run() {
        leastAndGreatestOfEachFact();
        containedValues();
        limitsAtFirst();
        conditionsNarrowTogether();
        isNarrows();
        overNarrows();
        underNarrows();
        notOverNarrows();
        notUnderNarrows();
        wordsNarrow();
        fromNarrows();
        untilNarrows();
        emptyRegions();
        emptyRegionsByWords();
        insideRegions();
        strictlyInsideRegions();
        limitedFacts();
        sharpnessFromNoneToSeven();
    }

    /** The region of the sentence in a book of its own: these values of the fact, and all of the others. */
    private void dueRegion(String sentence, int fact, int least, int greatest) {
        SentenceRules rules = new SentenceRules();
        edges.due("tell() of '" + sentence + "'", Checks.tell(rules, sentence), 0);
        for (int i = 0; i < 7; i++) {
            String name = "(0, " + i + ") of '" + sentence + "'";
            edges.due("least" + name, rules.least(0, i), i == fact ? least : Edges.lowest(i));
            edges.due("greatest" + name, rules.greatest(0, i), i == fact ? greatest : Edges.highest(i));
        }
    }

    private void dueNotPossible(String sentence) {
        SentenceRules rules = new SentenceRules();
        Checks.say(rules, sentence);
        edges.due("syntaxError() of '" + sentence + "'", rules.syntaxError(), Checks.NONE);
        edges.due("tell() of '" + sentence + "'", rules.tell(), Checks.NOT_POSSIBLE);
        edges.due("sentences()", rules.sentences(), 0);
        edges.due("clear()", rules.clear(), sentence.split(" ").length);
    }

    private static String ruleIf(int fact, String comparison, int value) {
        return "if " + Edges.FACT_WORDS[fact] + " " + comparison + " " + Edges.said(fact, value) + " then fee is 1";
    }

    private void leastAndGreatestOfEachFact() {
        edges.sentence(TERMS, "A region consists of a least and a greatest value for each of the seven facts");
        SentenceRules rules = Checks.book("small means age is 1 and income is 2 and size is 3 and count is 4 "
                + "and birth is 1900-01-06", "if small and entry is 1900-01-07 then fee is 1 "
                + "from 1900-01-08 until 1900-01-08");
        for (int fact = 0; fact < 7; fact++) {
            edges.due("least(1, " + fact + ")", rules.least(1, fact), fact + 1);
            edges.due("greatest(1, " + fact + ")", rules.greatest(1, fact), fact + 1);
        }
        edges.due("least(1, 7)", rules.least(1, 7), Checks.BAD_VALUE);
        edges.due("greatest(1, -1)", rules.greatest(1, -1), Checks.BAD_VALUE);
    }

    private void containedValues() {
        edges.sentence(TERMS, "It contains a combination of values of the facts if each of them is between the two");
        for (int fact = 0; fact < 7; fact++) {
            SentenceRules rules = Checks.book(Edges.ruleWithin(fact, 10, 20, 5));
            dueAnswerAt(rules, fact, 9, Checks.NONE);
            dueAnswerAt(rules, fact, 10, 5);
            dueAnswerAt(rules, fact, 15, 5);
            dueAnswerAt(rules, fact, 20, 5);
            dueAnswerAt(rules, fact, 21, Checks.NONE);
        }
        // Each of them: one that is not between its two is enough to be outside.
        String conditions = "small means age not over 5 and income not over 5 and size not over 5 and count not over 5";
        SentenceRules rules = Checks.book(conditions, "if small and birth under 1900-01-07 and entry under 1900-01-07 "
                + "then fee is 5 until 1900-01-06");
        rules.setFact(Edges.TODAY, 5);
        edges.due("answer(0)", rules.answer(0), 5);
        for (int fact = 0; fact < 7; fact++) {
            dueAnswerAt(rules, fact, 6, Checks.NONE);
            dueAnswerAt(rules, fact, 5, 5);
        }
    }

    private void dueAnswerAt(SentenceRules rules, int fact, int value, int want) {
        rules.setFact(fact, value);
        edges.due("answer(0) with fact " + fact + " of " + value, rules.answer(0), want);
    }

    private void limitsAtFirst() {
        edges.sentence(TERMS, "At first, these are the limits of the fact");
        SentenceRules rules = Checks.book("fee is 1");
        for (int fact = 0; fact < 7; fact++) {
            edges.due("least(0, " + fact + ")", rules.least(0, fact), Edges.lowest(fact));
            edges.due("greatest(0, " + fact + ")", rules.greatest(0, fact), Edges.highest(fact));
            dueAnswerAt(rules, fact, Edges.lowest(fact), 1);
            dueAnswerAt(rules, fact, Edges.highest(fact), 1);
        }
    }

    private void conditionsNarrowTogether() {
        edges.sentence(TERMS, "Each condition, and \"from\" and \"until\", narrow the region of a sentence");
        dueRegion("if age over 3 and age over 5 and age under 9 and age under 8 then fee is 1", 0, 6, 7);
        dueRegion("if age over 5 and age over 3 and age under 8 and age under 9 then fee is 1", 0, 6, 7);
        dueRegion("if age is 6 and age over 3 and age under 8 then fee is 1", 0, 6, 6);
        dueRegion("if age over 3 and age under 8 and age is 4 then fee is 1", 0, 4, 4);
        dueRegion("fee is 1 from 1900-01-03 until 1900-01-05", 6, 2, 4);
        SentenceRules rules = Checks.book("if count over 3 and entry under 1900-01-09 then fee is 1 from 1900-01-03");
        int[] least = {-9999, -9999, -9999, 4, 0, 0, 2};
        int[] greatest = {9999, 9999, 9999, 9999, 73048, 7, 73048};
        for (int fact = 0; fact < 7; fact++) {
            edges.due("least(0, " + fact + ")", rules.least(0, fact), least[fact]);
            edges.due("greatest(0, " + fact + ")", rules.greatest(0, fact), greatest[fact]);
        }
    }

    private void isNarrows() {
        edges.sentence(TERMS, "\"is v\" to v");
        for (int fact = 0; fact < 6; fact++) {
            int[] values = {Edges.lowest(fact), Edges.lowest(fact) + 1, 7, Edges.highest(fact) - 1, Edges.highest(fact)};
            for (int value : values) {
                dueRegion(ruleIf(fact, "is", value), fact, value, value);
            }
        }
    }

    private void overNarrows() {
        edges.sentence(TERMS, "\"over v\" to values greater than v");
        for (int fact = 0; fact < 6; fact++) {
            int highest = Edges.highest(fact);
            dueRegion(ruleIf(fact, "over", Edges.lowest(fact)), fact, Edges.lowest(fact) + 1, highest);
            dueRegion(ruleIf(fact, "over", 7), fact, 8, highest);
            dueRegion(ruleIf(fact, "over", highest - 1), fact, highest, highest);
            dueNotPossible(ruleIf(fact, "over", highest));
        }
    }

    private void underNarrows() {
        edges.sentence(TERMS, "\"under v\" to values less than v");
        for (int fact = 0; fact < 6; fact++) {
            int lowest = Edges.lowest(fact);
            dueRegion(ruleIf(fact, "under", Edges.highest(fact)), fact, lowest, Edges.highest(fact) - 1);
            dueRegion(ruleIf(fact, "under", 7), fact, lowest, 6);
            dueRegion(ruleIf(fact, "under", lowest + 1), fact, lowest, lowest);
            dueNotPossible(ruleIf(fact, "under", lowest));
        }
    }

    private void notOverNarrows() {
        edges.sentence(TERMS, "\"not over v\" to values not greater than v");
        for (int fact = 0; fact < 6; fact++) {
            int lowest = Edges.lowest(fact);
            dueRegion(ruleIf(fact, "not over", Edges.highest(fact)), fact, lowest, Edges.highest(fact));
            dueRegion(ruleIf(fact, "not over", Edges.highest(fact) - 1), fact, lowest, Edges.highest(fact) - 1);
            dueRegion(ruleIf(fact, "not over", 7), fact, lowest, 7);
            dueRegion(ruleIf(fact, "not over", lowest), fact, lowest, lowest);
        }
        // "not" is said for one condition alone.
        dueRegion("if age not over 7 and age over 3 then fee is 1", 0, 4, 7);
    }

    private void notUnderNarrows() {
        edges.sentence(TERMS, "\"not under v\" to values not less than v");
        for (int fact = 0; fact < 6; fact++) {
            int highest = Edges.highest(fact);
            dueRegion(ruleIf(fact, "not under", Edges.lowest(fact)), fact, Edges.lowest(fact), highest);
            dueRegion(ruleIf(fact, "not under", Edges.lowest(fact) + 1), fact, Edges.lowest(fact) + 1, highest);
            dueRegion(ruleIf(fact, "not under", 7), fact, 7, highest);
            dueRegion(ruleIf(fact, "not under", highest), fact, highest, highest);
        }
        dueRegion("if age not under 3 and age under 7 then fee is 1", 0, 3, 6);
    }

    private void wordsNarrow() {
        edges.sentence(TERMS, "a definable word to values that are also in the region of its definition");
        String[] words = {"minor", "senior", "small", "large", "early", "late"};
        for (String word : words) {
            SentenceRules rules = Checks.book(word + " means count not under 3 and count not over 9",
                    "if " + word + " then fee is 1", "if " + word + " and count over 3 then fee is 1",
                    "if count under 9 and " + word + " then fee is 1", "if count is 3 and " + word + " then fee is 1");
            int[][] due = {{3, 9}, {3, 9}, {4, 9}, {3, 8}, {3, 3}};
            for (int i = 0; i < due.length; i++) {
                edges.due("least(" + i + ", 3) with " + word, rules.least(i, 3), due[i][0]);
                edges.due("greatest(" + i + ", 3) with " + word, rules.greatest(i, 3), due[i][1]);
                edges.due("least(" + i + ", 2) with " + word, rules.least(i, 2), -9999);
                edges.due("greatest(" + i + ", 2) with " + word, rules.greatest(i, 2), 9999);
            }
        }
        // A word of words narrows to the whole region behind it, and all the words of a sentence do.
        SentenceRules chain = Checks.book("minor means age under 18", "small means minor and size under 3",
                "late means small and entry over 1900-01-05", "early means age over 5", "if late and early then fee is 1");
        edges.due("least(4, 0)", chain.least(4, 0), 6);
        edges.due("greatest(4, 0)", chain.greatest(4, 0), 17);
        edges.due("greatest(4, 2)", chain.greatest(4, 2), 2);
        edges.due("least(4, 5)", chain.least(4, 5), 5);
        edges.due("sharpness(4)", chain.sharpness(4), 3);
    }

    private void fromNarrows() {
        edges.sentence(TERMS, "\"from d\" to a fact today not before d");
        dueRegion("fee is 1 from 1900-01-01", 6, 0, 73048);
        dueRegion("fee is 1 from 1900-01-02", 6, 1, 73048);
        dueRegion("fee is 1 from 2099-12-31", 6, 73048, 73048);
        SentenceRules rules = Checks.book("fee is 1 from 2000-01-02");
        edges.due("answer(0) on the day before", rules.answer(0), Checks.NONE);
        dueAnswerAt(rules, 6, 36525, 1);
        dueAnswerAt(rules, 6, 36526, 1);
        dueAnswerAt(rules, 6, 73048, 1);
    }

    private void untilNarrows() {
        edges.sentence(TERMS, "\"until d\" to a fact today not after d");
        dueRegion("fee is 1 until 2099-12-31", 6, 0, 73048);
        dueRegion("fee is 1 until 2099-12-30", 6, 0, 73047);
        dueRegion("fee is 1 until 1900-01-01", 6, 0, 0);
        SentenceRules rules = Checks.book("fee is 1 until 1999-12-31");
        edges.due("answer(0) on the day after", rules.answer(0), Checks.NONE);
        dueAnswerAt(rules, 6, 36523, 1);
        dueAnswerAt(rules, 6, 36522, 1);
        dueAnswerAt(rules, 6, 0, 1);
    }

    private void emptyRegions() {
        edges.sentence(TERMS, "A sentence whose region would be empty for a fact is not possible");
        for (int fact = 0; fact < 7; fact++) {
            String one = Edges.ruleWithin(fact, 7, 7, 1);
            dueRegion(one, fact, 7, 7);
            dueNotPossible(Edges.ruleWithin(fact, 8, 7, 1));
            dueNotPossible(Edges.ruleWithin(fact, Edges.highest(fact), Edges.lowest(fact), 1));
        }
        for (int fact = 0; fact < 6; fact++) {
            String word = Edges.FACT_WORDS[fact];
            String start = "minor means " + word + " over " + Edges.said(fact, 3) + " and " + word + " under ";
            dueRegion(start + Edges.said(fact, 5), fact, 4, 4);
            dueNotPossible(start + Edges.said(fact, 4));
            dueNotPossible(start + Edges.said(fact, 3));
            dueNotPossible("if " + word + " is " + Edges.said(fact, 3) + " and " + word + " is " + Edges.said(fact, 4)
                    + " then fee is 1");
        }
        Scene scene = Scene.RICH.after(rules -> {
            rules.clear();
            return Checks.say(rules, "fee is 1 from 2000-01-02 until 2000-01-01");
        });
        edges.dueUnchanged(scene, "tell()", SentenceRules::tell, Checks.NOT_POSSIBLE);
    }

    private void emptyRegionsByWords() {
        edges.sentence(TERMS, "A sentence whose region would be empty for a fact is not possible");
        SentenceRules rules = Checks.book("minor means age under 18", "senior means age over 64");
        String[] empty = {"if minor and senior then fee is 1", "if minor and age is 18 then fee is 1",
            "if age over 16 and minor and age is 18 then fee is 1", "small means senior and age not over 64"};
        for (String sentence : empty) {
            edges.due("tell() of '" + sentence + "'", Checks.tell(rules, sentence), Checks.NOT_POSSIBLE);
            rules.clear();
        }
        edges.due("tell() up to the border", Checks.tell(rules, "if minor and age over 16 then fee is 1"), 2);
        edges.due("least(2, 0)", rules.least(2, 0), 17);
        edges.due("greatest(2, 0)", rules.greatest(2, 0), 17);
        edges.due("tell() up to the border", Checks.tell(rules, "small means senior and age not over 65"), 3);
    }

    private void insideRegions() {
        edges.sentence(TERMS, "A region is inside another one if all values that it contains are also contained in the other one");
        for (int fact = 0; fact < 7; fact++) {
            SentenceRules rules = Checks.book(Edges.ruleWithin(fact, 10, 20, 1), Edges.ruleWithin(fact, 10, 19, 1),
                    Edges.ruleWithin(fact, 11, 20, 1), Edges.ruleWithin(fact, 9, 20, 1), Edges.ruleWithin(fact, 10, 21, 1),
                    Edges.ruleWithin(fact, 9, 19, 1), Edges.ruleWithin(fact, 11, 21, 1));
            int[] due = {0, 2, 2, 1, 1, 3, 3};
            int[] reversed = {0, 1, 1, 2, 2, 3, 3};
            for (int i = 0; i < due.length; i++) {
                edges.due("compare(0, " + i + ") by fact " + fact, rules.compare(0, i), due[i]);
                edges.due("compare(" + i + ", 0) by fact " + fact, rules.compare(i, 0), reversed[i]);
            }
        }
        // All values: inside for one fact and not for another one is not inside.
        SentenceRules crossed = Checks.book("if age is 1 then fee is 1", "if size is 1 then fee is 1");
        edges.due("compare(0, 1)", crossed.compare(0, 1), 3);
    }

    private void strictlyInsideRegions() {
        edges.sentence(TERMS, "it is strictly inside if the two are not equal");
        for (int fact = 0; fact < 7; fact++) {
            // Where the regions are equal neither overrides; where the second is narrower by one value it does.
            SentenceRules equal = Checks.book(Edges.ruleWithin(fact, 5, 9, 1), Edges.ruleWithin(fact, 5, 9, 2));
            equal.setFact(fact, 5);
            edges.due("compare(0, 1) of equal ones", equal.compare(0, 1), 0);
            edges.due("overridden(0) of equal ones", equal.overridden(0), 0);
            edges.due("answer(0) of equal ones", equal.answer(0), Checks.REFUSED);
            SentenceRules narrower = Checks.book(Edges.ruleWithin(fact, 5, 9, 1), Edges.ruleWithin(fact, 5, 8, 2));
            narrower.setFact(fact, 5);
            edges.due("compare(0, 1)", narrower.compare(0, 1), 2);
            edges.due("overridden(0)", narrower.overridden(0), 1);
            edges.due("answer(0)", narrower.answer(0), 2);
        }
    }

    private void dueSharpness(String sentence, int want) {
        edges.due("sharpness(0) of '" + sentence + "'", Checks.book(sentence).sharpness(0), want);
    }

    private void limitedFacts() {
        edges.sentence(TERMS, "A fact is limited by a sentence if its least or its greatest value in the region is not the limit of the fact");
        for (int fact = 0; fact < 7; fact++) {
            int lowest = Edges.lowest(fact);
            int highest = Edges.highest(fact);
            dueSharpness(Edges.ruleWithin(fact, lowest, highest, 1), 0);
            dueSharpness(Edges.ruleWithin(fact, lowest + 1, highest, 1), 1);
            dueSharpness(Edges.ruleWithin(fact, lowest, highest - 1, 1), 1);
            dueSharpness(Edges.ruleWithin(fact, lowest + 1, highest - 1, 1), 1);
            dueSharpness(Edges.ruleWithin(fact, lowest, lowest, 1), 1);
            dueSharpness(Edges.ruleWithin(fact, highest, highest, 1), 1);
        }
    }

    private void sharpnessFromNoneToSeven() {
        edges.sentence(TERMS, "The sharpness of a sentence is the number of facts that it limits");
        dueSharpness("fee is 1", 0);
        dueSharpness("if age over 1 and age over 2 and age under 9 then fee is 1", 1);
        SentenceRules rules = Checks.book("small means age is 1", "large means small and income is 1",
                "early means large and size is 1", "late means early and count is 1",
                "minor means late and birth is 1900-01-02", "senior means minor and entry is 1900-01-02",
                "if senior then fee is 1 from 2000-01-01");
        for (int i = 0; i < 7; i++) {
            edges.due("sharpness(" + i + ")", rules.sharpness(i), i + 1);
        }
    }
}
