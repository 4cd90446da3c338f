import java.lang.reflect.Field;
import java.lang.reflect.Method;
import java.lang.reflect.Modifier;
import java.nio.file.Files;
import java.nio.file.Path;
import java.util.ArrayList;
import java.util.List;
import java.util.regex.Matcher;
import java.util.regex.Pattern;

/** What README.md says: its calls with their answers, its codes, and its special answers. */
public final class ReadmeTest {
    private static final Checks checks = new Checks();
    private static final Pattern CALL = Pattern.compile("rules\\.(\\w+)\\(([-\\d, ]*)\\); +// (-?\\d+|[A-Z_]+)(:.*)?");
    private static final int NO_LINE = -1;

    /** Sentences in which, together, each word of the vocabulary stands. */
    private static final String[] SENTENCES = {
        "minor means age under 18", "senior means age over 60", "small means size not over 3",
        "large means size not under 9", "early means entry under 1950-01-01", "late means entry over 1990-01-01",
        "if minor and early then fee is 5 from 2000-01-01 until 2000-12-31", "if senior then rate is -5",
        "if small and income is 4 then limit is 5", "if large and late then grade is 5",
        "if count is 7 and birth under 1980-01-01 then grade is 6",
    };

    public static void main(String[] args) throws Exception {
        String page = Files.readString(Path.of(args[2]));
        List<String> lines = page.lines().toList();
        calls(lines);
        everyCallIsTold(page);
        words(rows(lines, "| code |"));
        facts(rows(lines, "| fact |"));
        smallCodes(page.replaceAll("\\s+", " "));
        specialAnswers(rows(lines, "| constant |"));
        checks.end("ReadmeTest");
    }

    private static void calls(List<String> lines) throws Exception {
        SentenceRules rules = new SentenceRules();
        int found = 0;
        for (String line : lines) {
            if (line.startsWith("rules.")) {
                Matcher call = CALL.matcher(line);
                yes("a call and its answer: " + line, call.matches());
                checks.due(line, answer(rules, call.group(1), call.group(2)), number(call.group(3)));
                found++;
            }
        }
        yes("calls were found", found > 20);
    }

    private static int answer(SentenceRules rules, String name, String list) throws Exception {
        String[] parts = list.isBlank() ? new String[0] : list.split(", *");
        Class<?>[] types = new Class<?>[parts.length];
        Object[] values = new Object[parts.length];
        for (int i = 0; i < parts.length; i++) {
            types[i] = int.class;
            values[i] = Integer.valueOf(parts[i]);
        }
        return (int) SentenceRules.class.getMethod(name, types).invoke(rules, values);
    }

    private static int number(String text) throws Exception {
        return text.matches("-?\\d+") ? Integer.parseInt(text) : SentenceRules.class.getField(text).getInt(null);
    }

    private static void everyCallIsTold(String page) {
        for (Method method : SentenceRules.class.getDeclaredMethods()) {
            if (Modifier.isPublic(method.getModifiers())) {
                Matcher told = Pattern.compile("`" + method.getName() + "\\(([^)]*)\\)`").matcher(page);
                yes(method.getName() + " is told", told.find());
                int arguments = told.group(1).isEmpty() ? 0 : told.group(1).split(",").length;
                checks.due("arguments of " + method.getName(), arguments, method.getParameterCount());
            }
        }
    }

    /** The cells of the table that begins with this heading, row by row. */
    private static List<String[]> rows(List<String> lines, String heading) {
        List<String[]> rows = new ArrayList<>();
        int start = NO_LINE;
        for (int i = 0; i < lines.size(); i++) {
            if (lines.get(i).startsWith(heading)) {
                start = i + 2;
            }
        }
        yes("a table " + heading, start != NO_LINE);
        for (int i = start; i < lines.size() && lines.get(i).startsWith("|"); i++) {
            rows.add(lines.get(i).replaceAll("^\\| | \\|$", "").split(" \\| "));
        }
        return rows;
    }

    /** Reads each code of the table as a token, and looks how the program writes it. */
    private static void words(List<String[]> rows) {
        String[] words = new String[26];
        for (String[] row : rows) {
            for (int i = 0; i + 1 < row.length && row[i].matches("\\d+"); i += 2) {
                words[Integer.parseInt(row[i])] = row[i + 1];
            }
        }
        SentenceRules rules = new SentenceRules();
        for (int i = 0; i < SENTENCES.length; i++) {
            say(rules, words, SENTENCES[i]);
            checks.due("tell() of " + SENTENCES[i], rules.tell(), i);
            checks.dueText(rules, i, SENTENCES[i] + ".");
        }
        for (String word : words) {
            yes(word + " stands in a sentence", String.join(" ", SENTENCES).matches(".*\\b" + word + "\\b.*"));
        }
    }

    private static void say(SentenceRules rules, String[] words, String sentence) {
        for (String token : sentence.split(" ")) {
            int code = List.of(words).indexOf(token);
            if (code >= 0) {
                rules.word(code);
            } else {
                Checks.say(rules, token);
            }
        }
    }

    private static void facts(List<String[]> rows) {
        SentenceRules rules = new SentenceRules();
        checks.due("facts", rows.size(), 7);
        for (String[] row : rows) {
            int fact = Integer.parseInt(row[0]);
            String[] limits = row[2].split(" to ");
            int least = Integer.parseInt(limits[0]);
            int greatest = Integer.parseInt(limits[1]);
            checks.due("at first, " + row[1], rules.fact(fact), Integer.parseInt(row[3]));
            checks.due("below " + row[1], rules.setFact(fact, least - 1), Checks.BAD_VALUE);
            checks.due("above " + row[1], rules.setFact(fact, greatest + 1), Checks.BAD_VALUE);
            checks.due("least " + row[1], rules.setFact(fact, least), Integer.parseInt(row[3]));
            checks.due("greatest " + row[1], rules.setFact(fact, greatest), least);
            if (fact < 6) {
                SentenceRules book = Checks.book("if " + row[1] + (fact < 4 ? " is 4" : " is 1900-01-05")
                        + " then fee is 1");
                checks.due("the fact that " + row[1] + " limits", book.least(0, fact), 4);
            }
        }
    }

    private static void smallCodes(String page) {
        String[] defined = {"minor", "senior", "small", "large", "early", "late"};
        for (int word = 0; word < defined.length; word++) {
            yes(defined[word] + " is told", page.contains(word + " " + defined[word]));
            SentenceRules rules = Checks.book(defined[word] + " means age over 5", "if " + defined[word] + " then fee is 1");
            checks.due("definition of " + defined[word], rules.definition(word), 0);
            checks.due("uses " + defined[word], rules.uses(1), 1 << word);
        }
        String[] results = {"fee", "rate", "limit", "grade"};
        for (int result = 0; result < results.length; result++) {
            yes(results[result] + " is told", page.contains(result + " " + results[result]));
            checks.due("about " + results[result], Checks.book(results[result] + " is 3").about(0), result);
        }
    }

    private static void specialAnswers(List<String[]> rows) throws Exception {
        Field[] constants = SentenceRules.class.getFields();
        checks.due("special answers", rows.size(), constants.length);
        for (String[] row : rows) {
            String name = row[0].replace("`", "");
            checks.due(name, number(name), Integer.parseInt(row[1]));
        }
    }

    private static void yes(String what, boolean is) {
        checks.due(what + ":", is ? 1 : 0, 1);
    }
}
