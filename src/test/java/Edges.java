import java.nio.file.Files;
import java.nio.file.Path;
import java.time.LocalDate;
import java.util.List;

/**
 * What the tests of boundary cases share. Each test begins with the sentence of the document that it
 * holds; what is wrong is told with that sentence, and so is a sentence that no test holds.
 */
final class Edges {
    static final int TERMS = Document.TERMS;
    static final String[] FACT_WORDS = {"age", "income", "size", "count", "birth", "entry"};
    static final int TODAY = 6;
    static final int MIN = Integer.MIN_VALUE;
    static final int MAX = Integer.MAX_VALUE;

    private final Checks checks = new Checks();
    // null where there is no document: then only the names of the tests are not compared with it.
    private final Document document;
    private String heading = "";

    Edges(String path) throws java.io.IOException {
        Path file = Path.of(path);
        document = Files.exists(file) ? new Document(file) : null;
        if (document == null) {
            System.out.println("no document at " + path + ": the tests' names are not compared with it");
        }
    }

    /** From here on, what is due is due by this sentence of a promise, or of the terms. */
    void sentence(int promise, String quote) {
        heading = (promise == TERMS ? "Terms" : "Promise " + promise) + ", '" + quote + "': ";
        boolean stands = document == null || document.quote(promise, quote);
        due("the sentence stands in the document:", stands ? 1 : 0, 1);
    }

    void due(String call, long got, long want) {
        checks.due(heading + call, got, want);
    }

    void dueText(SentenceRules rules, int sentence, String want) {
        String got = Checks.textOf(rules, sentence);
        due("the text of " + sentence + " is '" + got + "', due is '" + want + "':", got.equals(want) ? 1 : 0, 1);
    }

    /** The call answers this, and behind it all is as it was. */
    void dueUnchanged(Scene scene, String name, Scene.Call call, int want) {
        due(name, call.on(scene.make()), want);
        List<String> before = scene.sight();
        List<String> after = scene.after(call).sight();
        int line = 0;
        while (line < before.size() && line < after.size() && before.get(line).equals(after.get(line))) {
            line++;
        }
        boolean same = line == before.size() && line == after.size();
        String change = same ? "" : " (" + (line < after.size() ? after.get(line) : "no line") + ", before: "
                + (line < before.size() ? before.get(line) : "no line") + ")";
        due("nothing changed behind " + name + change + ":", same ? 1 : 0, 1);
    }

    void end() {
        heading = "";
        List<String> unquoted = document == null ? List.of() : document.unquoted();
        for (String left : unquoted) {
            due("a test for '" + left + "'", 0, 1);
        }
        checks.end("EdgesTest");
    }

    // ---- the limits of facts, and sentences that reach them

    static int lowest(int fact) {
        return fact < 4 ? -9999 : 0;
    }

    static int highest(int fact) {
        return fact < 4 ? 9999 : 73048;
    }

    /** A value as a sentence has it. */
    static String said(int fact, int value) {
        return fact < 4 ? Integer.toString(value) : LocalDate.of(1900, 1, 1).plusDays(value).toString();
    }

    /** A rule that limits just this fact, to just these values, and gives the fee a number. */
    static String ruleWithin(int fact, int least, int greatest, int fee) {
        if (fact == TODAY) {
            return "fee is " + fee + " from " + said(fact, least) + " until " + said(fact, greatest);
        }
        String word = FACT_WORDS[fact];
        return "if " + word + " not under " + said(fact, least) + " and " + word + " not over "
                + said(fact, greatest) + " then fee is " + fee;
    }
}
