import java.io.IOException;
import java.lang.reflect.Method;
import java.lang.reflect.Modifier;
import java.nio.file.Files;
import java.nio.file.Path;
import java.util.ArrayList;
import java.util.List;
import java.util.Set;
import java.util.TreeSet;
import java.util.regex.Matcher;
import java.util.regex.Pattern;

/** README.md: its example answers as it says, and its tables name each call with its exceptions. */
public final class ReadmeTest {
    private static final Pattern CODE = Pattern.compile("`([^`]*)`");
    private static final Check check = new Check("ReadmeTest");

    public static void main(String[] args) throws IOException {
        List<String> page = Files.readAllLines(Path.of("README.md"));
        List<String> test = Files.readAllLines(Path.of("src/test/java/ReadmeTest.java"));
        exampleIsTheOneThatIsPlayed(page, test);
        playExample();
        groupsNameEachCallOnce(page);
        exceptionsNameTheirCalls(page);
        everyTestIsNamed(page);
        check.finish();
    }

    /** A line of the example stands in the method below, alone or as the call that is compared. */
    private static void exampleIsTheOneThatIsPlayed(List<String> page, List<String> test) {
        int begin = page.indexOf("```java");
        check.holds("there is an example", begin >= 0);
        String played = String.join("\n", test.subList(lineWith(test, "void playExample"), test.size()));
        int from = 0;
        for (String line : page.subList(begin + 1, page.size())) {
            if (line.equals("```")) {
                break;
            }
            String code = line.replaceAll("//.*", "").replaceAll(";\\s*$", "").strip();
            int found = played.indexOf(code, from);
            check.holds("it is played: " + code, found >= 0);
            from = Math.max(from, found + code.length());
            if (line.contains("//")) {
                String due = line.replaceAll(".*// ", "").split("[: ]")[0];
                check.holds(code + " is due to answer " + due, isDue(due, played.substring(from)));
            }
        }
    }

    /** The answer that a comment begins with is compared in the line of the call or in the next. */
    private static boolean isDue(String answer, String rest) {
        String[] lines = rest.split("\n", 3);
        String near = lines[0] + lines[1];
        return near.contains(", " + answer + ")") || near.contains(", \"" + answer + "\")");
    }

    private static int lineWith(List<String> lines, String part) {
        for (int index = 0; index < lines.size(); index++) {
            if (lines.get(index).contains("static " + part)) {
                return index;
            }
        }
        return 0;
    }

    private static void playExample() {
        CustomsShed shed = new CustomsShed();
        check.same("addStep", shed.addStep(1000, 20), 1);
        int lot = shed.addLot('c', 50, 30, 3);
        check.same("addLot", lot, 0);
        check.same("open", shed.open(lot), 0);
        check.same("duty", shed.duty(lot), 100);
        check.same("deposit", shed.deposit(999), 999);
        check.same("release", shed.release(lot), 100);
        check.same("undo", shed.undo(), 4);
        for (char character : "wet 0;day".toCharArray()) {
            shed.feed(character);
        }
        check.same("execute", shed.execute(), 2);
        check.same("quantity", shed.quantity(lot), 49);
        int length = shed.writeLot(lot);
        check.same("writeLot", length, 9);
        StringBuilder written = new StringBuilder();
        for (int index = 0; index < length; index++) {
            written.append(shed.outputCharacter(index));
        }
        check.same("written", written.toString(), "c49*30@3~");
        boolean isRefused = false;
        try {
            shed.seal(lot);
        } catch (UnsupportedOperationException refused) {
            check.same("isDamp", shed.isDamp(lot) + "", "true");
            isRefused = true;
        }
        check.holds("a damp lot is not sealed", isRefused);
    }

    /** The rows of the table whose head begins so, split at their bars, without the head. */
    private static List<String[]> rows(List<String> page, String head) {
        List<String[]> rows = new ArrayList<>();
        boolean isInside = false;
        for (String line : page) {
            if (isInside && line.startsWith("| ") && !line.startsWith("| ---")) {
                rows.add(line.split("\\|"));
            }
            isInside = line.startsWith("| " + head + " |") || isInside && line.startsWith("|");
        }
        return rows;
    }

    private static List<String> names(String cell) {
        List<String> names = new ArrayList<>();
        Matcher matcher = CODE.matcher(cell);
        while (matcher.find()) {
            names.add(matcher.group(1));
        }
        return names;
    }

    private static void groupsNameEachCallOnce(List<String> page) {
        List<String> named = new ArrayList<>();
        for (String[] row : rows(page, "group")) {
            named.addAll(names(row[2]));
            named.addAll(names(row[3]));
        }
        Set<String> due = callsThatThrow("");
        check.same("calls in the groups", named.size(), due.size());
        check.same("names of the calls", new TreeSet<>(named).toString(), due.toString());
    }

    private static void exceptionsNameTheirCalls(List<String> page) {
        List<String[]> rows = rows(page, "exception");
        check.same("exceptions", rows.size(), 6);
        for (String[] row : rows) {
            String exception = names(row[1]).get(0);
            check.same("calls with " + exception, new TreeSet<>(names(row[3])).toString(),
                    callsThatThrow(exception).toString());
        }
    }

    /** The calls that declare this exception, or all of them if it is empty. */
    private static Set<String> callsThatThrow(String exception) {
        Set<String> calls = new TreeSet<>();
        for (Method method : CustomsShed.class.getDeclaredMethods()) {
            boolean isNamed = exception.isEmpty();
            for (Class<?> thrown : method.getExceptionTypes()) {
                isNamed = isNamed || thrown.getSimpleName().equals(exception);
            }
            if (isNamed && Modifier.isPublic(method.getModifiers())) {
                calls.add(method.getName());
            }
        }
        return calls;
    }

    private static void everyTestIsNamed(List<String> page) throws IOException {
        String text = String.join("\n", page);
        try (var files = Files.list(Path.of("src/test/java"))) {
            files.map(file -> file.getFileName().toString()).filter(name -> name.endsWith("Test.java"))
                    .forEach(name -> check.holds("it is named: " + name,
                            text.contains(name.replace(".java", ""))));
        }
    }
}
