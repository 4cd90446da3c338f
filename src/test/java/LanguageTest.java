import java.lang.reflect.Field;
import java.lang.reflect.Method;
import java.lang.reflect.Modifier;
import java.nio.file.Files;
import java.nio.file.Path;
import java.util.Set;
import java.util.TreeSet;
import java.util.regex.Matcher;
import java.util.regex.Pattern;

/** The public face of the document, and those rules of LANGUAGE.md that a look at the program can tell. */
public final class LanguageTest {
    private static final Checks checks = new Checks();

    private static final String[] METHODS = {
        "word/1", "number/1", "date/3", "back/0", "clear/0", "syntaxError/0", "tell/0", "retract/1", "setFact/2",
        "undo/0", "sentences/0", "about/1", "gives/1", "least/2", "greatest/2", "sharpness/1", "uses/1", "fact/1",
        "definition/1", "length/1", "character/2", "dayNumber/3", "dateOf/1", "answer/1", "reasons/1", "reason/2",
        "overridden/1", "holds/1", "compare/2", "contradiction/1", "answerIf/3", "nextChange/2", "leastFor/3",
        "matters/1",
    };

    private static final String[] CONSTANTS = {
        "NO_SUCH_SENTENCE", "BAD_VALUE", "NOT_POSSIBLE", "FULL", "NONE", "REFUSED",
    };

    private static final String[] FORBIDDEN = {
        "\\b(throw|throws|try|catch|synchronized|assert|import|package|protected|native|volatile)\\b",
        "->", "::", "\\bstatic \\{", "\\bnew [\\w<>]+\\([^)]*\\) \\{", "@\\w+",
        "\\b(hashCode|equals)\\b", "(?<!\\bbuilder\\.)\\btoString\\b",
        "\\b\\w+Exact\\b", "\\bSystem\\.(?!arraycopy)", "\\binstanceof\\b", "\\b(float|double)\\b",
    };

    public static void main(String[] args) throws Exception {
        constants();
        methods();
        insideClasses();
        source(Files.readString(Path.of(args[0])));
        checks.end("LanguageTest");
    }

    private static void constants() throws Exception {
        checks.due("the class is public and final:", SentenceRules.class.getModifiers(),
                Modifier.PUBLIC | Modifier.FINAL);
        checks.due("one constructor:", SentenceRules.class.getDeclaredConstructors().length, 1);
        for (int i = 0; i < CONSTANTS.length; i++) {
            checks.due(CONSTANTS[i], SentenceRules.class.getField(CONSTANTS[i]).getInt(null), -100001 - i);
        }
        checks.due("public fields", SentenceRules.class.getFields().length, CONSTANTS.length);
    }

    private static void methods() {
        Set<String> due = new TreeSet<>(Set.of(METHODS));
        Set<String> names = new TreeSet<>();
        for (String method : METHODS) {
            names.add(method.substring(0, method.indexOf('/')));
        }
        for (Method method : SentenceRules.class.getDeclaredMethods()) {
            String name = method.getName() + "/" + method.getParameterCount();
            if (Modifier.isPublic(method.getModifiers())) {
                yes("the document has " + name, due.remove(name));
                yes(name + " answers an int", method.getReturnType() == int.class);
            } else {
                yes(name + " is private", Modifier.isPrivate(method.getModifiers()));
                yes(name + " has no public one's name", !names.contains(method.getName()));
            }
            yes(name + " takes at most seven", method.getParameterCount() <= 7);
        }
        yes("no method is missing: " + due, due.isEmpty());
        for (Field field : SentenceRules.class.getDeclaredFields()) {
            int modifiers = field.getModifiers();
            yes(field + " is private or public", Modifier.isPrivate(modifiers) || Modifier.isPublic(modifiers));
            yes(field + " is final if it is static", Modifier.isFinal(modifiers) || !Modifier.isStatic(modifiers));
        }
    }

    private static void insideClasses() {
        Class<?>[] inside = SentenceRules.class.getDeclaredClasses();
        yes("at most twelve classes", inside.length < 12);
        for (Class<?> part : inside) {
            yes(part + " is static", Modifier.isStatic(part.getModifiers()));
            yes(part + " is not public", !Modifier.isPublic(part.getModifiers()));
            yes(part + " has at most twenty fields", part.getDeclaredFields().length <= 20);
            for (Method method : part.getDeclaredMethods()) {
                yes(method + " takes at most seven", method.getParameterCount() <= 7);
            }
        }
    }

    private static void source(String whole) {
        String code = whole.replaceAll("(?s)/\\*.*?\\*/", "").replaceAll("//[^\n]*", "")
                .replaceAll("\"[^\"\n]*\"", "\"\"");
        for (String forbidden : FORBIDDEN) {
            Matcher matcher = Pattern.compile(forbidden).matcher(code);
            yes("nowhere " + forbidden, !matcher.find());
        }
        yes("signs 1 to 127 alone", whole.chars().allMatch(c -> c > 0 && c < 128));
        Matcher body = Pattern.compile("(?m)^( +)[\\w\\[\\] ]+\\(.*\\) \\{\n((?:\\1 .*\n|\n)*)\\1\\}").matcher(code);
        int bodies = 0;
        while (body.find()) {
            bodies++;
            yes("at most sixty lines: " + body.group().trim().lines().findFirst(), body.group(2).lines().count() <= 60);
        }
        yes("methods were found", bodies > METHODS.length);
    }

    private static void yes(String what, boolean is) {
        checks.due(what + ":", is ? 1 : 0, 1);
    }
}
