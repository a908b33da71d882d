import java.io.IOException;
import java.nio.file.Files;
import java.nio.file.Path;
import java.util.regex.Matcher;
import java.util.regex.Pattern;

/** The rules of LANGUAGE.md that can be seen in the program's text, which args[0] names. */
public final class LanguageTest {
    private static final String[] BARRED = {
        "->", "::", "\\bfinally\\b", "\\bsynchronized\\b", "\\bassert\\b", "\\bpackage\\b", "\\bcatch\\b",
        "\\bequals\\b", "\\bhashCode\\b", "\\btoString\\b", "\\bSystem\\.(?!arraycopy)", "\\bThread\\b",
        "\\bRandom\\b", "\\bString\\.format\\b", "Exact\\(", "\\bprotected\\b", "\\bObject\\b", "\\bvar\\b",
        "\\blong\\[\\]\\[\\]\\[\\]", "\\bgetMessage\\b", "\\bnative\\b", "\\bException \\w",
    };
    private static final Pattern THROWN = Pattern.compile("\\bthrow\\b(?! new (IllegalStateException"
            + "|IllegalArgumentException|IndexOutOfBoundsException|ArithmeticException"
            + "|UnsupportedOperationException|NoSuchElementException|RuntimeException)\\(\\s*(\"\")?\\);)");
    private static final Pattern METHOD = Pattern.compile("(?m)^( {4}| {8})\\w[^;={}]*\\)[^;={}]*\\{\\n(?:.*\\n)*?\\1\\}");

    private static final Check check = new Check("LanguageTest");

    public static void main(String[] args) throws IOException {
        String text = Files.readString(Path.of(args[0]));
        check.holds("signs are from 1 to 127", text.chars().allMatch(sign -> sign >= 1 && sign <= 127));
        String code = withoutTextsAndComments(text);
        for (String barred : BARRED) {
            check.same("found of " + barred, count(Pattern.compile(barred), code), 0);
        }
        check.same("imports", count(Pattern.compile("\\bimport\\b"), code), 1);
        check.holds("the import", code.startsWith("import java.util.NoSuchElementException;"));
        check.same("throws of another form", count(THROWN, code), 0);
        check.holds("at most twelve classes", count(Pattern.compile("\\b(class|enum|interface|record) \\w"), code) <= 12);
        methods(code);
        check.finish();
    }

    private static String withoutTextsAndComments(String text) {
        return text.replaceAll("'(\\\\.|[^'\\\\])'", "' '").replaceAll("\"(\\\\.|[^\"\\\\])*\"", "\"\"")
                .replaceAll("(?s)/\\*.*?\\*/", "").replaceAll("//.*", "");
    }

    private static int count(Pattern pattern, String code) {
        Matcher matcher = pattern.matcher(code);
        int found = 0;
        while (matcher.find()) {
            found++;
        }
        return found;
    }

    private static void methods(String code) {
        Matcher matcher = METHOD.matcher(code);
        int methods = 0;
        while (matcher.find()) {
            String method = matcher.group();
            String head = method.substring(0, method.indexOf('{'));
            if (head.contains(" class ")) {
                continue;
            }
            methods++;
            check.holds("at most sixty lines:" + head, method.lines().count() <= 60);
            check.holds("at most seven parameters:" + head, head.chars().filter(sign -> sign == ',').count() <= 6);
        }
        check.holds("methods were found", methods >= 100);
    }
}
