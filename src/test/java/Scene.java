import java.util.ArrayList;
import java.util.List;

/**
 * A state of an object, made anew for each look at it, so that a look never changes what the next one
 * sees, and no object is used for more than its 512 calls.
 */
final class Scene {
    interface Maker {
        SentenceRules make();
    }

    interface Call {
        int on(SentenceRules rules);
    }

    static final Scene FRESH = new Scene(SentenceRules::new);
    static final Scene RICH = new Scene(Scene::rich);
    static final Scene FULL_BOOK = new Scene(Scene::fullBook);
    static final Scene FULL_SENTENCE = new Scene(Scene::fullSentence);

    /** A rule of 24 tokens. */
    static final String LONGEST = "if age over 1 and age over 2 and age over 3 and age over 4 and age over 5 then fee is 7";

    // What the present sentence may go on with, so that what it says can be told and read.
    private static final String[] ENDINGS = {
        "", "7", "is 7", "fee is 7", "then fee is 7", "3 then fee is 7", "over 3 then fee is 7",
        "age over 3 then fee is 7", "2000-01-01", "until 2000-01-01", "means age is 1", "age is 1",
    };

    private final Maker maker;
    private List<String> sight;

    Scene(Maker maker) {
        this.maker = maker;
    }

    SentenceRules make() {
        return maker.make();
    }

    Scene after(Call call) {
        return new Scene(() -> {
            SentenceRules rules = make();
            call.on(rules);
            return rules;
        });
    }

    private static SentenceRules rich() {
        SentenceRules rules = Checks.book("minor means age under 18", "small means minor and size under 3", "fee is 1",
                "if small then fee is 2", "rate is 1 until 2000-01-01", "rate is 2 from 2000-01-01",
                "if age is 0 then limit is -4", "late means entry over 1999-12-31");
        rules.setFact(3, -7);
        rules.setFact(5, 36524);
        rules.setFact(1, 7);
        rules.setFact(1, 8);
        rules.undo();
        Checks.say(rules, "if minor and age over 3");
        return rules;
    }

    private static SentenceRules fullBook() {
        SentenceRules rules = Checks.book("minor means age under 18", "if minor then fee is 1", "fee is 2",
                "rate is 3", "rate is 4", "rate is 5", "rate is 6", "rate is 7", "rate is 8", "rate is 9",
                "rate is 10", "rate is 11", "rate is 12", "rate is 13", "grade is 14", "limit is 15");
        Checks.say(rules, "large means size over 3");
        return rules;
    }

    private static SentenceRules fullSentence() {
        SentenceRules rules = rich();
        rules.clear();
        Checks.say(rules, LONGEST);
        return rules;
    }

    /** All that can be seen of the state, a line each. */
    List<String> sight() {
        if (sight == null) {
            List<String> lines = new ArrayList<>();
            seeBook(make(), lines);
            seePresent(make(), lines);
            for (String ending : ENDINGS) {
                seeEnding(make(), ending, lines);
            }
            int count = make().sentences();
            for (int i = 0; i < count; i++) {
                seeSentence(make(), i, count, lines);
            }
            for (int undone = 1; undone <= 9; undone++) {
                seeUndone(make(), undone, lines);
            }
            sight = lines;
        }
        return sight;
    }

    private static void see(List<String> lines, String what, int answer) {
        lines.add(what + " answers " + answer);
    }

    private static void seeBook(SentenceRules rules, List<String> lines) {
        see(lines, "sentences()", rules.sentences());
        for (int fact = 0; fact < 7; fact++) {
            see(lines, "fact(" + fact + ")", rules.fact(fact));
        }
        for (int word = 0; word < 6; word++) {
            see(lines, "definition(" + word + ")", rules.definition(word));
            see(lines, "holds(" + word + ")", rules.holds(word));
        }
        for (int result = 0; result < 4; result++) {
            see(lines, "answer(" + result + ")", rules.answer(result));
            see(lines, "overridden(" + result + ")", rules.overridden(result));
            int reasons = rules.reasons(result);
            see(lines, "reasons(" + result + ")", reasons);
            for (int i = 0; i < reasons; i++) {
                see(lines, "reason(" + result + ", " + i + ")", rules.reason(result, i));
            }
        }
        for (int i = 0; i < 120; i++) {
            see(lines, "contradiction(" + i + ")", rules.contradiction(i));
        }
    }

    private static void seePresent(SentenceRules rules, List<String> lines) {
        int left = 0;
        for (int looks = 0; looks < 26 && left >= 0; looks++) {
            see(lines, "syntaxError()", rules.syntaxError());
            left = rules.back();
            see(lines, "back()", left);
        }
    }

    private static void seeEnding(SentenceRules rules, String ending, List<String> lines) {
        if (!ending.isEmpty()) {
            see(lines, "the last token of '" + ending + "'", Checks.say(rules, ending));
        }
        int told = rules.tell();
        see(lines, "tell() with '" + ending + "'", told);
        if (told >= 0) {
            lines.add("its text is " + Checks.textOf(rules, told));
        }
        see(lines, "clear()", rules.clear());
    }

    private static void seeSentence(SentenceRules rules, int sentence, int count, List<String> lines) {
        String number = "(" + sentence + ")";
        see(lines, "about" + number, rules.about(sentence));
        see(lines, "gives" + number, rules.gives(sentence));
        see(lines, "sharpness" + number, rules.sharpness(sentence));
        see(lines, "uses" + number, rules.uses(sentence));
        see(lines, "matters" + number, rules.matters(sentence));
        lines.add("text of " + number + " is " + Checks.textOf(rules, sentence));
        for (int fact = 0; fact < 7; fact++) {
            see(lines, "least of " + fact + " in " + number, rules.least(sentence, fact));
            see(lines, "greatest of " + fact + " in " + number, rules.greatest(sentence, fact));
        }
        for (int other = 0; other < count; other++) {
            see(lines, "compare(" + sentence + ", " + other + ")", rules.compare(sentence, other));
        }
    }

    private static void seeUndone(SentenceRules rules, int undone, List<String> lines) {
        for (int i = 0; i < undone; i++) {
            see(lines, "undo()", rules.undo());
        }
        for (int fact = 0; fact < 7; fact++) {
            see(lines, "fact(" + fact + ") after " + undone + " undo()", rules.fact(fact));
        }
        int count = rules.sentences();
        see(lines, "sentences() after " + undone + " undo()", count);
        for (int i = 0; i < count; i++) {
            String number = "(" + i + ") after " + undone + " undo()";
            see(lines, "about" + number, rules.about(i));
            see(lines, "gives" + number, rules.gives(i));
            see(lines, "length" + number, rules.length(i));
            see(lines, "uses" + number, rules.uses(i));
        }
        seePresent(rules, lines);
    }
}
