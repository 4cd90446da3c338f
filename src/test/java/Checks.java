/** What the tests share: the comparing of answers, and sentences that are said as text. */
final class Checks {
    static final int NO_SUCH_SENTENCE = -100001;
    static final int BAD_VALUE = -100002;
    static final int NOT_POSSIBLE = -100003;
    static final int FULL = -100004;
    static final int NONE = -100005;
    static final int REFUSED = -100006;

    private static final String[] WORDS = (
            "if and then means is over under not from until age income size count birth entry "
            + "minor senior small large early late fee rate limit grade").split(" ");

    private int passed;
    private int failed;

    void due(String call, long got, long want) {
        if (got == want) {
            passed++;
        } else {
            failed++;
            System.out.println(call + " answered " + got + ", due is " + want);
        }
    }

    /** Prints the closing line and ends the test. */
    void end(String name) {
        System.out.println(name + ": " + passed + " passed, " + failed + " failed");
        if (failed != 0 || passed == 0) {
            System.exit(1);
        }
    }

    /** Puts the tokens of a text behind the present sentence; returns what the last call answered. */
    static int say(SentenceRules rules, String text) {
        int answer = 0;
        for (String token : text.trim().split(" +")) {
            answer = sayToken(rules, token);
        }
        return answer;
    }

    private static int sayToken(SentenceRules rules, String token) {
        if (token.matches("\\d{4}-\\d\\d-\\d\\d")) {
            return rules.date(Integer.parseInt(token.substring(0, 4)), Integer.parseInt(token.substring(5, 7)),
                    Integer.parseInt(token.substring(8)));
        }
        if (token.matches("-?\\d+")) {
            return rules.number(Integer.parseInt(token));
        }
        for (int i = 0; i < WORDS.length; i++) {
            if (WORDS[i].equals(token)) {
                return rules.word(i);
            }
        }
        throw new IllegalArgumentException("no token: " + token);
    }

    /** Says and tells a sentence; returns what tell answered. */
    static int tell(SentenceRules rules, String text) {
        say(rules, text);
        return rules.tell();
    }

    /** A new object with these sentences in its book. */
    static SentenceRules book(String... sentences) {
        SentenceRules rules = new SentenceRules();
        for (int i = 0; i < sentences.length; i++) {
            int number = tell(rules, sentences[i]);
            if (number != i) {
                throw new IllegalStateException("'" + sentences[i] + "' was told as " + number);
            }
        }
        return rules;
    }

    /** The present sentence's first error, for a sentence said on a new object. */
    void dueError(String text, int want) {
        SentenceRules rules = new SentenceRules();
        if (!text.isEmpty()) {
            say(rules, text);
        }
        due("syntaxError() of '" + text + "'", rules.syntaxError(), want);
    }

    static String textOf(SentenceRules rules, int sentence) {
        StringBuilder text = new StringBuilder();
        int length = rules.length(sentence);
        for (int i = 0; i < length; i++) {
            text.append((char) rules.character(sentence, i));
        }
        return text.toString();
    }

    void dueText(SentenceRules rules, int sentence, String want) {
        String got = textOf(rules, sentence);
        boolean same = got.equals(want);
        due("text of " + sentence + " is '" + got + "', due is '" + want + "':", same ? 1 : 0, 1);
    }
}
