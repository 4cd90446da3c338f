import java.util.ArrayList;
import java.util.List;

/** Long runs of calls, the same in every test run, each answer compared with that of the model. */
public final class ModelTest {
    private static final int RUNS = 400;
    private static final int CALLS = 512;
    private static final int[] NUMBERS = {-9999, -9998, -2, -1, 0, 1, 2, 3, 4, 9998, 9999};
    private static final int[] DAYS = {0, 1, 36523, 36524, 36525, 36526, 73047, 73048};
    private static final int[] GIVEN = {1, 1, 1, 2, 2, 3, -9999, 9999};
    private static final int[] ODD = {Integer.MIN_VALUE, Integer.MAX_VALUE, -100005, -10000, 10000, 73049, -1};

    private final Checks checks;
    private final SentenceRules rules = new SentenceRules();
    private final Model model = new Model();
    private final int run;
    private long seed;
    private int calls;

    private ModelTest(Checks checks, int run) {
        this.checks = checks;
        this.run = run;
        seed = run * 7919L + 17;
    }

    public static void main(String[] args) {
        Checks checks = new Checks();
        for (int run = 0; run < RUNS; run++) {
            new ModelTest(checks, run).runCalls();
        }
        checks.end("ModelTest");
    }

    private int below(int bound) {
        seed = seed * 6364136223846793005L + 1442695040888963407L;
        return (int) ((seed >>> 33) % bound);
    }

    private int oneOf(int[] values) {
        return values[below(values.length)];
    }

    private void due(String call, int got, int want) {
        calls++;
        checks.due("run " + run + ", call " + calls + ", " + call, got, want);
    }

    private void runCalls() {
        while (calls < CALLS - 40) {
            int kind = below(10);
            if (kind < 4) {
                sentence();
            } else if (kind == 4) {
                act();
            } else {
                question();
            }
        }
    }

    // Words that are told often, so that the book fills with rules that meet and lie in one another.
    private List<int[]> conditions() {
        List<int[]> tokens = new ArrayList<>();
        int count = 1 + below(3);
        for (int i = 0; i < count; i++) {
            if (i > 0) {
                tokens.add(new int[] {0, 1});
            }
            condition(tokens);
        }
        return tokens;
    }

    private void condition(List<int[]> tokens) {
        if (below(5) == 0) {
            tokens.add(new int[] {0, 16 + below(6)});
            return;
        }
        int fact = below(3) == 0 ? below(6) : below(2) * 4;
        tokens.add(new int[] {0, 10 + fact});
        int comparison = below(5);
        if (comparison > 2) {
            tokens.add(new int[] {0, 7});
        }
        tokens.add(new int[] {0, comparison == 0 ? 4 : comparison % 2 == 1 ? 5 : 6});
        tokens.add(fact < 4 ? new int[] {1, oneOf(NUMBERS)} : new int[] {2, oneOf(DAYS)});
    }

    private List<int[]> freshSentence() {
        List<int[]> tokens = new ArrayList<>();
        int form = below(8);
        if (form == 0) {
            tokens.add(new int[] {0, 16 + below(6)});
            tokens.add(new int[] {0, 3});
            tokens.addAll(conditions());
            return tokens;
        }
        if (form > 1) {
            tokens.add(new int[] {0, 0});
            tokens.addAll(conditions());
            tokens.add(new int[] {0, 2});
        }
        tokens.add(new int[] {0, 22 + (below(5) == 0 ? below(4) : below(2))});
        tokens.add(new int[] {0, 4});
        tokens.add(new int[] {1, oneOf(GIVEN)});
        if (below(4) == 0) {
            tokens.add(new int[] {0, 8});
            tokens.add(new int[] {2, oneOf(DAYS)});
        }
        if (below(4) == 0) {
            tokens.add(new int[] {0, 9});
            tokens.add(new int[] {2, oneOf(DAYS)});
        }
        return tokens;
    }

    private int[] anyToken() {
        int kind = below(5);
        return kind == 0 ? new int[] {1, oneOf(NUMBERS)} : kind == 1 ? new int[] {2, oneOf(DAYS)}
                : new int[] {0, below(26)};
    }

    private void sentence() {
        List<int[]> tokens = freshSentence();
        if (below(8) == 0) {
            tokens.set(below(tokens.size()), anyToken());
        }
        if (below(16) == 0) {
            tokens.remove(below(tokens.size()));
        }
        if (below(16) == 0) {
            tokens.add(below(tokens.size() + 1), anyToken());
        }
        for (int[] token : tokens) {
            say(token[0], token[1]);
        }
        if (below(6) == 0) {
            due("syntaxError()", rules.syntaxError(), model.syntaxError());
        }
        int told = model.tell();
        due("tell()", rules.tell(), told);
        if (told < 0 && below(8) != 0) {
            due("clear()", rules.clear(), model.clear());
        }
    }

    private void say(int kind, int value) {
        if (kind == 0) {
            due("word(" + value + ")", rules.word(value), model.word(value));
        } else if (kind == 1) {
            due("number(" + value + ")", rules.number(value), model.number(value));
        } else {
            int date = model.dateOf(value);
            due("date of " + date, rules.date(date / 10000, date / 100 % 100, date % 100),
                    model.date(date / 10000, date / 100 % 100, date % 100));
        }
    }

    private int someSentence() {
        return below(12) == 0 ? below(2) == 0 ? oneOf(ODD) : model.sentences() : below(Math.max(1, model.sentences()));
    }

    private int some(int bound) {
        return below(20) == 0 ? below(2) == 0 ? oneOf(ODD) : bound : below(bound);
    }

    private int someValue(int fact) {
        if (below(20) == 0) {
            return oneOf(ODD);
        }
        return fact < 4 ? oneOf(NUMBERS) : oneOf(DAYS);
    }

    private void act() {
        int kind = below(9);
        if (kind < 5) {
            int fact = below(3) == 0 ? some(7) : below(2) * 4;
            int value = someValue(fact);
            due("setFact(" + fact + ", " + value + ")", rules.setFact(fact, value), model.setFact(fact, value));
        } else if (kind < 7) {
            int sentence = someSentence();
            due("retract(" + sentence + ")", rules.retract(sentence), model.retract(sentence));
        } else {
            due("undo()", rules.undo(), model.undo());
            if (below(2) == 0) {
                due("clear()", rules.clear(), model.clear());
            }
        }
    }

    private void question() {
        switch (below(5)) {
            case 0:
                askAboutSentence(someSentence());
                break;
            case 1:
                askAboutAnswer(below(4) == 0 ? some(4) : below(2));
                break;
            case 2:
                askWhatIf(below(4) == 0 ? some(4) : below(2), below(3) == 0 ? some(7) : below(2) * 4);
                break;
            case 3:
                askAboutRegions();
                break;
            default:
                askAboutRest();
                break;
        }
    }

    private void askAboutSentence(int sentence) {
        int fact = some(7);
        int index = below(10) == 0 ? oneOf(ODD) : below(70);
        String number = "(" + sentence;
        due("about" + number, rules.about(sentence), model.about(sentence));
        due("gives" + number, rules.gives(sentence), model.gives(sentence));
        due("least" + number + ", " + fact, rules.least(sentence, fact), model.least(sentence, fact));
        due("greatest" + number + ", " + fact, rules.greatest(sentence, fact), model.greatest(sentence, fact));
        due("sharpness" + number, rules.sharpness(sentence), model.sharpness(sentence));
        due("uses" + number, rules.uses(sentence), model.uses(sentence));
        due("length" + number, rules.length(sentence), model.length(sentence));
        due("character" + number + ", " + index, rules.character(sentence, index), model.character(sentence, index));
        due("matters" + number, rules.matters(sentence), model.matters(sentence));
    }

    private void askAboutAnswer(int result) {
        int index = some(4);
        due("answer(" + result, rules.answer(result), model.answer(result));
        due("reasons(" + result, rules.reasons(result), model.reasons(result));
        due("reason(" + result + ", " + index, rules.reason(result, index), model.reason(result, index));
        due("overridden(" + result, rules.overridden(result), model.overridden(result));
    }

    private void askWhatIf(int result, int fact) {
        int value = someValue(fact);
        int wanted = below(20) == 0 ? oneOf(ODD) : oneOf(GIVEN);
        String start = "(" + result + ", " + fact;
        due("answerIf" + start + ", " + value, rules.answerIf(result, fact, value), model.answerIf(result, fact, value));
        due("nextChange" + start, rules.nextChange(result, fact), model.nextChange(result, fact));
        due("leastFor" + start + ", " + wanted, rules.leastFor(result, fact, wanted),
                model.leastFor(result, fact, wanted));
    }

    private void askAboutRegions() {
        int a = someSentence();
        int b = someSentence();
        int index = below(10) == 0 ? oneOf(ODD) : below(12);
        due("compare(" + a + ", " + b, rules.compare(a, b), model.compare(a, b));
        due("contradiction(" + index, rules.contradiction(index), model.contradiction(index));
        due("contradiction(0", rules.contradiction(0), model.contradiction(0));
    }

    private void askAboutRest() {
        int word = some(6);
        int fact = some(7);
        int number = below(5) == 0 ? oneOf(ODD) : below(73049);
        int year = 1898 + below(204);
        int month = below(14);
        int day = below(33);
        due("definition(" + word, rules.definition(word), model.definition(word));
        due("holds(" + word, rules.holds(word), model.holds(word));
        due("fact(" + fact, rules.fact(fact), model.fact(fact));
        due("sentences()", rules.sentences(), model.sentences());
        due("dateOf(" + number, rules.dateOf(number), model.dateOf(number));
        due("dayNumber(" + year + ", " + month + ", " + day, rules.dayNumber(year, month, day),
                model.dayNumber(year, month, day));
        if (below(4) == 0) {
            due("back()", rules.back(), model.back());
        }
        if (below(8) == 0) {
            int code = oneOf(ODD);
            due("word(" + code, rules.word(code), model.word(code));
            due("number(" + code, rules.number(code), model.number(code));
        }
    }
}
