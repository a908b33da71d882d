import java.util.ArrayList;
import java.util.List;
import java.util.Set;
import java.util.TreeSet;

/**
 * Promise 54 and the terms of commands: after each beginning of a well-formed text, each sign that
 * can go on and each that cannot. In the forms, 9 stands for any digit, N for one to four of them,
 * and c for any kind.
 */
public final class GrammarTest {
    private static final String[] FORMS = {
        "lot cN*N@N", "seal N", "open N", "wet N", "queue N", "release N", "move N@N", "audit",
        "step N=N", "bond N", "day",
    };
    private static final Check check = new Check("GrammarTest");
    private static final Set<String> commands = new TreeSet<>();
    private static final Set<String> beginnings = new TreeSet<>();

    private static int texts = 0;

    public static void main(String[] args) {
        for (String form : FORMS) {
            expand(form);
        }
        for (String command : commands) {
            for (int length = 0; length <= command.length(); length++) {
                beginnings.add(command.substring(0, length));
            }
        }
        check.same("commands with numbers of each length", commands.size(), 64 + 5 * 4 + 16 + 1 + 16 + 4 + 1);
        for (String beginning : beginnings) {
            ends(beginning);
            everySign(beginning);
        }
        check.holds("many texts", texts > 100000);
        check.finish();
    }

    private static void expand(String form) {
        if (form.indexOf('N') < 0) {
            commands.add(form);
            return;
        }
        for (String digits : new String[] {"9", "99", "999", "9999"}) {
            expand(form.replaceFirst("N", digits));
        }
    }

    /** The text ends here: it is well-formed, or too short. */
    private static void ends(String beginning) {
        for (String ahead : new String[] {"", "day;", "day;day;"}) {
            String text = ahead + written(beginning);
            if (commands.contains(beginning)) {
                wellFormed(text);
                malformed(text + ";", text.length() + 1);
            } else {
                malformed(text, text.length());
            }
        }
    }

    private static void everySign(String beginning) {
        String text = written(beginning);
        for (char sign : signs()) {
            if (canGoOn(beginning, sign)) {
                reachesBehind(text + sign);
            } else {
                malformed(text + sign, text.length());
                malformed(text + sign + "1", text.length());
                malformed("day;" + text + sign, text.length() + 4);
            }
        }
    }

    private static List<Character> signs() {
        List<Character> signs = new ArrayList<>();
        for (int sign = 0; sign < 128; sign++) {
            signs.add((char) sign);
            signs.add((char) (256 + sign));
        }
        // Digits and letters of other scripts, and the ends of the range.
        for (int sign : new int[] {128, 178, 223, 255, 0x660, 0x966, 0xFF10, 0xFF41, 0x7FFF, 0x8000, 0xFFFF}) {
            signs.add((char) sign);
        }
        return signs;
    }

    private static boolean canGoOn(String beginning, char sign) {
        if (sign == ';') {
            return commands.contains(beginning);
        }
        if (beginning.equals("lot ")) {
            return sign >= 'a' && sign <= 'e';
        }
        char form = sign >= '0' && sign <= '9' ? '9' : sign;
        return beginnings.contains(beginning + form);
    }

    /** The beginning with its digits and its kind written out, another way for each length. */
    private static String written(String beginning) {
        StringBuilder text = new StringBuilder(beginning);
        for (int index = 0; index < text.length(); index++) {
            if (text.charAt(index) == '9') {
                text.setCharAt(index, (char) ('0' + (index * 7 + text.length()) % 10));
            }
        }
        if (beginning.startsWith("lot ") && beginning.length() > 4) {
            text.setCharAt(4, (char) ('a' + text.length() % 5));
        }
        return text.toString();
    }

    private static CustomsShed executed(String text, StringBuilder outcome) {
        CustomsShed shed = new CustomsShed();
        Sheds.feed(shed, text);
        outcome.append(Trace.answer(shed::execute));
        texts++;
        return shed;
    }

    private static void malformed(String text, int due) {
        StringBuilder outcome = new StringBuilder();
        CustomsShed shed = executed(text, outcome);
        boolean isRefused = outcome.toString().equals("IllegalArgumentException ");
        check.same("error position of \"" + text + "\"", isRefused ? shed.errorPosition() : -1, due);
        check.same("day after it", shed.day(), 0);
        check.same("buffer after it", shed.feed('x'), 1);
    }

    private static void wellFormed(String text) {
        StringBuilder outcome = new StringBuilder();
        executed(text, outcome);
        check.holds("\"" + text + "\" is well-formed", !outcome.toString().startsWith("IllegalArgument"));
    }

    private static void reachesBehind(String text) {
        StringBuilder outcome = new StringBuilder();
        CustomsShed shed = executed(text, outcome);
        boolean isRefused = outcome.toString().equals("IllegalArgumentException ");
        check.same("reach of \"" + text + "\"", isRefused ? shed.errorPosition() : text.length(), text.length());
    }
}
