/** Promises 8 to 11: tell, retract, setFact, undo. */
final class EdgesOfBook {
    private static final int MIN = Edges.MIN;
    private static final int MAX = Edges.MAX;

    private final Edges edges;

    EdgesOfBook(Edges edges) {
        this.edges = edges;
    }

    void run() {
        tellAddsAtTheEnd();
        tellIsAnAct();
        tellWithSyntaxErrors();
        tellWithWordsUndefined();
        tellOfASecondDefinition();
        tellOfEmptyRegions();
        tellIntoAFullBook();
        retractRemoves();
        retractIsAnAct();
        retractOfNoSentence();
        retractOfAUsedDefinition();
        setFactSets();
        setFactIsAnAct();
        setFactNumbers();
        setFactValues();
        undoRestoresTheLatest();
        undoCountsWhatIsLeft();
        undoOfNothing();
    }

    // ---- tell

    private void tellAddsAtTheEnd() {
        edges.sentence(8, "Adds the present sentence at the end of the book, and removes its tokens");
        SentenceRules rules = Checks.book("fee is 1", "rate is 2");
        Checks.say(rules, "minor means age under 18");
        edges.sentence(8, "Returns the number of the sentence");
        edges.due("tell()", rules.tell(), 2);
        edges.dueText(rules, 2, "minor means age under 18.");
        edges.dueText(rules, 0, "fee is 1.");
        edges.due("clear()", rules.clear(), 0);
        edges.due("tell() of nothing more", rules.tell(), Checks.NOT_POSSIBLE);
        edges.due("sentences()", rules.sentences(), 3);
        SentenceRules first = new SentenceRules();
        edges.due("tell() of the first", Checks.tell(first, "if age is 0 then fee is 9"), 0);
        edges.due("answer(0)", first.answer(0), 9);
        // What was told before says nothing in the next one.
        edges.due("tell()", Checks.tell(first, "rate is 1"), 1);
        edges.due("sharpness(1)", first.sharpness(1), 0);
        edges.due("uses(1)", first.uses(1), 0);
    }

    private void tellIsAnAct() {
        edges.sentence(8, "This is an act");
        SentenceRules rules = new SentenceRules();
        Checks.tell(rules, "fee is 1");
        edges.due("undo()", rules.undo(), 0);
        edges.due("sentences()", rules.sentences(), 0);
        edges.due("clear()", rules.clear(), 3);
        edges.due("undo()", rules.undo(), Checks.NONE);
    }

    private static final String NOT_POSSIBLE = "NOT_POSSIBLE if it has a syntax error, uses a word without a definition, "
            + "defines a word that has a definition, or its region would be empty for a fact";

    /** What stands is told, and one token or sentence less or more is refused, with nothing changed. */
    private void dueRefused(String sentence) {
        Scene scene = Scene.RICH.after(rules -> {
            rules.clear();
            return sentence.isEmpty() ? 0 : Checks.say(rules, sentence);
        });
        edges.dueUnchanged(scene, "tell() of '" + sentence + "'", SentenceRules::tell, Checks.NOT_POSSIBLE);
    }

    private void dueTold(String sentence) {
        SentenceRules rules = Scene.RICH.make();
        rules.clear();
        edges.due("tell() of '" + sentence + "'", Checks.tell(rules, sentence), 8);
    }

    private void tellWithSyntaxErrors() {
        edges.sentence(8, "NOT_POSSIBLE if it has a syntax error");
        dueRefused("");
        dueRefused("fee");
        dueRefused("fee is");
        dueTold("fee is 1");
        dueRefused("fee is 1 from");
        dueRefused("fee is 1 2");
        dueRefused("large means");
        dueTold("large means small");
        dueRefused("large means small and");
        dueRefused("if small then");
        dueRefused("means large small");
    }

    private void tellWithWordsUndefined() {
        edges.sentence(8, "uses a word without a definition");
        dueTold("if minor and small and late then fee is 1");
        dueRefused("if senior then fee is 1");
        dueRefused("if minor and senior then fee is 1");
        dueRefused("if senior and minor then fee is 1");
        dueRefused("large means early");
        dueRefused("large means large");
        dueRefused("senior means minor and senior");
        // A word is without a definition again when that is retracted, or undone.
        SentenceRules rules = Checks.book("minor means age is 1");
        rules.retract(0);
        edges.due("tell() behind retract()", Checks.tell(rules, "if minor then fee is 1"), Checks.NOT_POSSIBLE);
        rules.undo();
        edges.due("clear()", rules.clear(), 0);
        edges.due("tell() behind undo() of it", Checks.tell(rules, "if minor then fee is 1"), 1);
        SentenceRules undone = Checks.book("minor means age is 1");
        undone.undo();
        undone.clear();
        edges.due("tell() behind undo()", Checks.tell(undone, "if minor then fee is 1"), Checks.NOT_POSSIBLE);
    }

    private void tellOfASecondDefinition() {
        edges.sentence(8, "defines a word that has a definition");
        dueTold("senior means age over 64");
        dueRefused("minor means age under 18");
        dueRefused("minor means age over 64");
        dueRefused("small means minor");
        dueRefused("small means small");
        dueRefused("late means count is 1");
        dueTold("early means age is 1");
    }

    private void tellOfEmptyRegions() {
        edges.sentence(8, "or its region would be empty for a fact");
        dueTold("if minor and age over 16 then fee is 1");
        dueRefused("if minor and age over 17 then fee is 1");
        dueTold("if small and size not under 2 then fee is 1");
        dueRefused("if small and size not under 3 then fee is 1");
        dueTold("fee is 1 from 2000-01-01 until 2000-01-01");
        dueRefused("fee is 1 from 2000-01-02 until 2000-01-01");
        dueTold("if count is 1 and count is 1 then fee is 1");
        dueRefused("if count is 1 and count is 2 then fee is 1");
        // Refused already is a region that is empty for one of the facts.
        dueRefused("if late and entry under 2000-01-01 and age is 1 then fee is 1");
        edges.sentence(8, NOT_POSSIBLE);
        dueRefused("minor means early and age over 9999");
    }

    private void tellIntoAFullBook() {
        edges.sentence(8, "FULL if there are 16 sentences");
        edges.dueUnchanged(Scene.FULL_BOOK, "tell()", SentenceRules::tell, Checks.FULL);
        SentenceRules fifteen = Scene.FULL_BOOK.make();
        edges.due("retract(15)", fifteen.retract(15), 15);
        edges.due("tell() of the sixteenth", fifteen.tell(), 15);
        edges.due("tell() of one more", Checks.tell(fifteen, "fee is 1"), Checks.FULL);
        String[] notPossible = {"fee is", "if late then fee is 1", "minor means age is 1", "if age over 9999 then fee is 1"};
        for (String sentence : notPossible) {
            Scene scene = Scene.FULL_BOOK.after(rules -> {
                rules.clear();
                return Checks.say(rules, sentence);
            });
            edges.dueUnchanged(scene, "tell() of '" + sentence + "'", SentenceRules::tell, Checks.NOT_POSSIBLE);
        }
    }

    // ---- retract

    private void retractRemoves() {
        edges.sentence(9, "Removes a sentence from the book");
        edges.sentence(9, "Returns the number of sentences that are left");
        SentenceRules rules = Checks.book("fee is 1", "fee is 2", "fee is 3");
        edges.due("retract(1)", rules.retract(1), 2);
        edges.due("sentences()", rules.sentences(), 2);
        edges.due("gives(0)", rules.gives(0), 1);
        edges.due("gives(1)", rules.gives(1), 3);
        edges.due("retract(1)", rules.retract(1), 1);
        edges.due("retract(0)", rules.retract(0), 0);
        edges.due("answer(0)", rules.answer(0), Checks.NONE);
        SentenceRules full = Scene.FULL_BOOK.make();
        edges.due("retract(15) of a full book", full.retract(15), 15);
        edges.due("clear(): the present sentence stays", full.clear(), 5);
    }

    private void retractIsAnAct() {
        edges.sentence(9, "This is an act");
        SentenceRules rules = Checks.book("fee is 1", "minor means age is 1");
        rules.retract(0);
        edges.due("undo()", rules.undo(), 2);
        edges.due("sentences()", rules.sentences(), 2);
        edges.due("about(0)", rules.about(0), 0);
        edges.due("about(1)", rules.about(1), 10);
    }

    private void retractOfNoSentence() {
        edges.sentence(9, "sentence: number of a sentence");
        edges.due("retract(0), the first", Scene.FULL_BOOK.after(rules -> rules.retract(1)).make().retract(0), 14);
        edges.due("retract(7), the last", Scene.RICH.make().retract(7), 7);
        edges.sentence(9, "NO_SUCH_SENTENCE");
        for (int sentence : new int[] {-1, 8, 16, MIN, MAX}) {
            edges.dueUnchanged(Scene.RICH, "retract(" + sentence + ")", r -> r.retract(sentence), Checks.NO_SUCH_SENTENCE);
        }
        edges.dueUnchanged(Scene.FULL_BOOK, "retract(16)", r -> r.retract(16), Checks.NO_SUCH_SENTENCE);
        edges.dueUnchanged(Scene.FRESH, "retract(0)", r -> r.retract(0), Checks.NO_SUCH_SENTENCE);
    }

    private void retractOfAUsedDefinition() {
        edges.sentence(9, "NOT_POSSIBLE if it is a definition whose word another sentence uses");
        edges.dueUnchanged(Scene.RICH, "retract(0), used by a definition", r -> r.retract(0), Checks.NOT_POSSIBLE);
        edges.dueUnchanged(Scene.RICH, "retract(1), used by a rule", r -> r.retract(1), Checks.NOT_POSSIBLE);
        edges.dueUnchanged(Scene.FULL_BOOK, "retract(0)", r -> r.retract(0), Checks.NOT_POSSIBLE);
        edges.due("retract(7), a definition that none uses", Scene.RICH.make().retract(7), 7);
        edges.due("retract(3), a rule that uses a word", Scene.RICH.make().retract(3), 7);
        SentenceRules rules = Checks.book("late means age is 1", "if late then fee is 1", "if late then fee is 2");
        edges.due("retract(0) with two users", rules.retract(0), Checks.NOT_POSSIBLE);
        edges.due("retract(1)", rules.retract(1), 2);
        edges.due("retract(0) with one user", rules.retract(0), Checks.NOT_POSSIBLE);
        edges.due("retract(1)", rules.retract(1), 1);
        edges.due("retract(0) with none", rules.retract(0), 0);
        // The words of other definitions, and the present sentence, keep nothing.
        String[] words = {"minor", "senior", "small", "large", "early", "late"};
        for (int i = 0; i < 6; i++) {
            SentenceRules pair = Checks.book(words[i] + " means age is 1", words[(i + 1) % 6] + " means age is 1",
                    "if " + words[(i + 1) % 6] + " then grade is 1");
            Checks.say(pair, "if " + words[i]);
            edges.due("retract(1), used", pair.retract(1), Checks.NOT_POSSIBLE);
            edges.due("retract(0), not used", pair.retract(0), 2);
        }
    }

    // ---- setFact

    private void setFactSets() {
        edges.sentence(10, "Sets a fact");
        edges.sentence(10, "Returns the previous value");
        SentenceRules rules = new SentenceRules();
        for (int fact = 0; fact < 7; fact++) {
            edges.due("setFact(" + fact + ", 12)", rules.setFact(fact, 12), fact == 6 ? 36524 : 0);
            edges.due("setFact(" + fact + ", 12)", rules.setFact(fact, 12), 12);
            edges.due("setFact(" + fact + ", 30)", rules.setFact(fact, 30 + fact), 12);
        }
        for (int fact = 0; fact < 7; fact++) {
            edges.due("fact(" + fact + ")", rules.fact(fact), 30 + fact);
        }
    }

    private void setFactIsAnAct() {
        edges.sentence(10, "This is an act");
        SentenceRules rules = new SentenceRules();
        rules.setFact(0, 5);
        edges.due("setFact(0, 5) to the value that it has", rules.setFact(0, 5), 5);
        edges.due("undo()", rules.undo(), 1);
        edges.due("fact(0)", rules.fact(0), 5);
        edges.due("undo()", rules.undo(), 0);
        edges.due("fact(0)", rules.fact(0), 0);
    }

    private void setFactNumbers() {
        edges.sentence(10, "fact: 0 to 6");
        edges.due("setFact(0, 3)", Scene.RICH.make().setFact(0, 3), 0);
        edges.due("setFact(6, 3)", Scene.RICH.make().setFact(6, 3), 36524);
        edges.sentence(10, "BAD_VALUE if fact or value is out of range");
        for (int fact : new int[] {-1, 7, MIN, MAX}) {
            edges.dueUnchanged(Scene.RICH, "setFact(" + fact + ", 0)", r -> r.setFact(fact, 0), Checks.BAD_VALUE);
            edges.dueUnchanged(Scene.RICH, "setFact(" + fact + ", max)", r -> r.setFact(fact, MAX), Checks.BAD_VALUE);
        }
    }

    private void setFactValues() {
        edges.sentence(10, "value: a number from -9999 to 9999 for the facts 0 to 3, a day number for the facts 4 to 6");
        for (int fact = 0; fact < 7; fact++) {
            int number = fact;
            int lowest = Edges.lowest(fact);
            int highest = Edges.highest(fact);
            int previous = Scene.RICH.make().fact(fact);
            edges.due("setFact(" + fact + ", lowest)", Scene.RICH.make().setFact(fact, lowest), previous);
            edges.due("setFact(" + fact + ", highest)", Scene.RICH.make().setFact(fact, highest), previous);
            for (int value : new int[] {lowest - 1, highest + 1, MIN, MAX}) {
                edges.dueUnchanged(Scene.RICH, "setFact(" + fact + ", " + value + ")", r -> r.setFact(number, value),
                        Checks.BAD_VALUE);
            }
        }
    }

    // ---- undo

    private void undoRestoresTheLatest() {
        edges.sentence(11, "Restores the latest recorded state and drops it from the recorded states");
        // All that can be seen, behind each kind of act: only the recorded states that were before are left.
        Scene act = Scene.RICH.after(SentenceRules::clear);
        SentenceRules rules = act.make();
        rules.setFact(0, 1);
        edges.due("undo() of setFact()", rules.undo(), 8 - 1);
        edges.due("fact(0)", rules.fact(0), 0);
        SentenceRules mixed = new SentenceRules();
        Checks.tell(mixed, "fee is 1");
        mixed.setFact(0, 5);
        mixed.retract(0);
        edges.due("undo()", mixed.undo(), 2);
        edges.due("sentences()", mixed.sentences(), 1);
        edges.due("fact(0)", mixed.fact(0), 5);
        edges.due("undo()", mixed.undo(), 1);
        edges.due("sentences()", mixed.sentences(), 1);
        edges.due("fact(0)", mixed.fact(0), 0);
        edges.due("undo()", mixed.undo(), 0);
        edges.due("sentences()", mixed.sentences(), 0);
        // It is dropped: the act after it records anew.
        mixed.setFact(1, 1);
        edges.due("undo()", mixed.undo(), 0);
        edges.due("fact(1)", mixed.fact(1), 0);
        // As many states as are kept, and with fewer than eight the whole sight is the one before.
        for (int acts = 0; acts < 8; acts++) {
            dueSameSight(acts);
        }
    }

    private void dueSameSight(int acts) {
        Scene before = new Scene(() -> {
            SentenceRules rules = Checks.book("minor means age under 18");
            rules.undo();
            rules.tell();
            for (int i = 1; i < acts; i++) {
                rules.setFact(i % 7, i);
            }
            Checks.say(rules, "if minor then");
            return rules;
        });
        edges.dueUnchanged(before, "setFact(), undo() behind " + acts + " acts", rules -> {
            rules.setFact(3, 3);
            rules.word(1);
            return rules.undo();
        }, Math.max(acts, 1));
        edges.dueUnchanged(before, "retract(), undo() behind " + acts + " acts", rules -> {
            rules.retract(0);
            rules.clear();
            return rules.undo();
        }, Math.max(acts, 1));
        edges.dueUnchanged(before, "tell(), undo() behind " + acts + " acts", rules -> {
            Checks.say(rules, "fee is 1");
            rules.tell();
            rules.undo();
            rules.back();
            rules.back();
            return rules.back();
        }, 3);
    }

    private void undoCountsWhatIsLeft() {
        edges.sentence(11, "Returns the number of recorded states that are left");
        SentenceRules rules = new SentenceRules();
        for (int i = 1; i <= 8; i++) {
            rules.setFact(i % 7, i);
        }
        for (int left = 7; left >= 0; left--) {
            edges.due("undo()", rules.undo(), left);
        }
        edges.due("undo()", rules.undo(), Checks.NONE);
        SentenceRules nine = new SentenceRules();
        for (int i = 1; i <= 9; i++) {
            nine.setFact(i % 7, i);
        }
        edges.due("undo() of nine acts", nine.undo(), 7);
    }

    private void undoOfNothing() {
        edges.sentence(11, "NONE if no state is recorded");
        edges.dueUnchanged(Scene.FRESH, "undo()", SentenceRules::undo, Checks.NONE);
        Scene said = Scene.FRESH.after(rules -> Checks.say(rules, "fee is 1"));
        edges.dueUnchanged(said, "undo()", SentenceRules::undo, Checks.NONE);
        Scene undone = new Scene(() -> {
            SentenceRules rules = Scene.RICH.make();
            for (int i = 0; i < 8; i++) {
                rules.undo();
            }
            return rules;
        });
        edges.dueUnchanged(undone, "undo() behind all", SentenceRules::undo, Checks.NONE);
    }
}
