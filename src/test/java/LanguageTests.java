import java.io.IOException;
import java.nio.charset.StandardCharsets;
import java.nio.file.Files;
import java.nio.file.Path;
import java.util.List;
import java.util.regex.Matcher;
import java.util.regex.Pattern;

/** Of ../shared/LANGUAGE.md what can be seen from the class's words alone; the rule's number is told with each fault. */
public final class LanguageTests {
    private static final int MOST_LINES = 60, MOST_CLASSES = 12, MOST_PARAMETERS = 7;
    private static int wrong = 0;

    private LanguageTests() { }

    public static void main(String[] args) throws IOException {
        String all = Files.readString(Path.of("src/main/java/QueueTurns.java"), StandardCharsets.UTF_8);
        String code = withoutComments(all);
        none(1, code, "\\bpackage\\b", "\\bprotected\\b");
        none(2, code, "->", "::", "\\bnew \\w+(<.*?>)?\\([^)]*\\) *\\{");
        none(4, code, "\\bimport\\b", "\\bjava\\b", "Exact\\b", "\\bSystem\\.(?!arraycopy\\()");
        none(5, code, "\\bstatic *\\{", "\\bstatic (?!final\\b)(?:\\w|\\[\\])+ \\w+ *[=;]");
        none(6, code, "\\bthrow\\b", "\\bthrows\\b", "\\btry\\b", "\\bcatch\\b", "\\bfinally\\b", "\\bsynchronized\\b",
            "\\bassert\\b", "\\bhashCode\\b", "\\btoString\\b", "\\.equals\\b");
        none(13, code, "\\bThread\\b", "\\bRandom\\b", "\\brandom\\b", "\\bnanoTime\\b", "\\bcurrentTimeMillis\\b");
        due(11, "classes", count(code, "\\bclass \\w+"), MOST_CLASSES);
        everyMethodIsShort(code);
        System.out.println(wrong == 0 ? "no rule is seen broken" : wrong + " faults of the language");
        if (wrong != 0) {
            System.exit(1);
        }
    }

    private static String withoutComments(String all) {
        return Pattern.compile("/\\*.*?\\*/", Pattern.DOTALL).matcher(all).replaceAll("").replaceAll("//[^\n]*", "");
    }

    private static void none(int rule, String code, String... forbidden) {
        for (String words : List.of(forbidden)) {
            due(rule, words, count(code, words), 0);
        }
    }

    private static int count(String code, String words) {
        return (int) Pattern.compile(words).matcher(code).results().count();
    }

    private static void due(int rule, String what, int got, int most) {
        if (got > most) {
            wrong++;
            System.out.println("rule " + rule + ": " + what + ": there are " + got + ", at most " + most + " are due");
        }
    }

    /** A method ends at the brace that stands as far in as its first line. */
    private static void everyMethodIsShort(String code) {
        Matcher method = Pattern.compile("(?m)^( +)(?:\\w+ )+?(\\w+)\\(([^)]*)\\) \\{$").matcher(code);
        while (method.find()) {
            int end = code.indexOf("\n" + method.group(1) + "}", method.end());
            String body = end < 0 ? code : code.substring(method.start(), end);
            due(11, "lines of " + method.group(2), (int) body.lines().count(), MOST_LINES);
            due(11, "parameters of " + method.group(2), method.group(3).split(",").length, MOST_PARAMETERS);
        }
    }
}
