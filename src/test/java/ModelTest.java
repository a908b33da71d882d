import java.lang.reflect.Method;
import java.util.Map;
import java.util.TreeMap;
import java.util.TreeSet;
import java.util.function.Supplier;

/**
 * Long runs of calls on a shed and on the reference: every answer and every exception must be the
 * same. The runs are drawn by a generator of our own, so they are the same every time; each stays
 * within the 512 calls for which the document promises anything.
 */
public final class ModelTest {
    private static final int RUNS = 6000;
    private static final int CALLS = 512;

    private static final Map<String, TreeSet<String>> seen = new TreeMap<>();
    private static long seed = 20261119;
    private static int wrong = 0;

    private final CustomsShed shed = new CustomsShed();
    private final Reference reference = new Reference();
    private final StringBuilder calls = new StringBuilder();
    private final int run;
    private final int changeWeight;
    private final int textWeight;
    private final int undoWeight;
    private final int dayWeight;
    private final int wrongWeight;
    private int made = 0;

    private ModelTest(int run) {
        this.run = run;
        changeWeight = 20 + draw(60);
        textWeight = draw(4) == 0 ? 10 : draw(2);
        undoWeight = draw(3) == 0 ? 10 : 1;
        dayWeight = draw(3) == 0 ? 8 : 1;
        wrongWeight = draw(2) == 0 ? 25 : 4;
    }

    public static void main(String[] args) {
        for (int run = 0; run < RUNS && wrong == 0; run++) {
            new ModelTest(run).play();
        }
        tellMissing();
        System.out.println("ModelTest: " + RUNS + " runs, " + wrong + " faults");
        if (wrong != 0) {
            System.exit(1);
        }
    }

    /** A number from 0 to bound - 1. */
    private static int draw(int bound) {
        seed = seed * 6364136223846793005L + 1442695040888963407L;
        return (int) ((seed >>> 33) % bound);
    }

    /** Every call must have been seen with an answer and with each exception that it may throw. */
    private static void tellMissing() {
        for (Method method : CustomsShed.class.getDeclaredMethods()) {
            if (!java.lang.reflect.Modifier.isPublic(method.getModifiers())) {
                continue;
            }
            TreeSet<String> due = new TreeSet<>();
            due.add("an answer");
            for (Class<?> thrown : method.getExceptionTypes()) {
                due.add(thrown.getSimpleName());
            }
            TreeSet<String> got = seen.getOrDefault(method.getName(), new TreeSet<>());
            if (!got.equals(due)) {
                wrong++;
                System.out.println("ModelTest: " + method.getName() + " was seen with " + got + ", due is " + due);
            }
        }
    }

    private void play() {
        while (made < CALLS && wrong == 0) {
            int drawn = draw(100);
            if (drawn < changeWeight) {
                change();
            } else if (drawn < changeWeight + textWeight) {
                text();
            } else if (draw(100) < undoWeight) {
                back();
            } else {
                look();
            }
        }
    }

    private void same(String name, String arguments, Supplier<Object> got, Supplier<Object> due) {
        if (made >= CALLS || wrong != 0) {
            return;
        }
        made++;
        String gotAnswer = outcome(got);
        String dueAnswer = outcome(due);
        calls.append(name).append('(').append(arguments).append(") ").append(dueAnswer).append('\n');
        seen.computeIfAbsent(name, key -> new TreeSet<>())
                .add(dueAnswer.startsWith("throws ") ? dueAnswer.substring(7) : "an answer");
        if (!gotAnswer.equals(dueAnswer)) {
            wrong++;
            System.out.println(calls + "ModelTest, run " + run + ": the last call answered " + gotAnswer);
        }
    }

    private static String outcome(Supplier<Object> call) {
        try {
            return String.valueOf(call.get());
        } catch (RuntimeException thrown) {
            return "throws " + thrown.getClass().getSimpleName();
        }
    }

    // ---- arguments: mostly good ones, sometimes wrong ones ----

    private boolean isWrong() {
        return draw(100) < wrongWeight;
    }

    private int number(int from, int to) {
        if (!isWrong()) {
            return from + draw(to - from + 1);
        }
        int[] odd = {from - 1, to + 1, from, to, -1, 0, Integer.MIN_VALUE, Integer.MAX_VALUE, to + 1000};
        return odd[draw(odd.length)];
    }

    private int lotId() {
        if (isWrong() || reference.lotCount() == 0) {
            return number(0, 40);
        }
        return reference.lot(draw(reference.lotCount()));
    }

    private int bayNumber() {
        return draw(3) == 0 ? number(0, 23) : number(4, 18);
    }

    private char kindSign() {
        char[] odd = {'`', 'f', 'A', 'E', '0', (char) 0, (char) 353, (char) 65535};
        return isWrong() ? odd[draw(odd.length)] : (char) ('a' + draw(5));
    }

    private int amount() {
        return draw(3) == 0 ? number(1, 99) : number(1, 5);
    }

    private int thresholdNumber() {
        if (draw(3) == 0 && reference.stepCount() > 0) {
            return reference.threshold(draw(reference.stepCount()));
        }
        return draw(3) == 0 ? number(0, 9999) : number(0, 40);
    }

    // ---- calls ----

    private void change() {
        int lot = lotId();
        int bay = bayNumber();
        switch (draw(13 + dayWeight)) {
            case 0, 1, 2 -> add();
            case 3 -> same("seal", "" + lot, () -> shed.seal(lot), () -> reference.seal(lot));
            case 4 -> same("open", "" + lot, () -> shed.open(lot), () -> reference.open(lot));
            case 5 -> same("wet", "" + lot, () -> shed.wet(lot), () -> reference.wet(lot));
            case 6 -> same("move", lot + ", " + bay, () -> shed.move(lot, bay), () -> reference.move(lot, bay));
            case 7 -> step();
            case 8 -> removeStep();
            case 9 -> same("enqueue", "" + lot, () -> shed.enqueue(lot), () -> reference.enqueue(lot));
            case 10 -> same("audit", "", shed::audit, reference::audit);
            case 11 -> deposit();
            case 12 -> release(lot);
            default -> pass();
        }
    }

    private void add() {
        char kind = kindSign();
        int quantity = amount();
        int price = amount();
        int bay = bayNumber();
        same("addLot", (int) kind + ", " + quantity + ", " + price + ", " + bay,
                () -> shed.addLot(kind, quantity, price, bay), () -> reference.addLot(kind, quantity, price, bay));
    }

    private void step() {
        int threshold = thresholdNumber();
        int rate = number(0, 100);
        same("addStep", threshold + ", " + rate, () -> shed.addStep(threshold, rate),
                () -> reference.addStep(threshold, rate));
    }

    private void removeStep() {
        int threshold = thresholdNumber();
        if (draw(2) == 0) {
            same("removeStep", "" + threshold, () -> shed.removeStep(threshold), () -> reference.removeStep(threshold));
        }
    }

    private void deposit() {
        int coins = draw(4) == 0 ? 999 : number(1, draw(2) == 0 ? 999 : 20);
        same("deposit", "" + coins, () -> shed.deposit(coins), () -> reference.deposit(coins));
    }

    private void release(int lot) {
        if (draw(2) == 0) {
            same("release", "" + lot, () -> shed.release(lot), () -> reference.release(lot));
        }
    }

    private void pass() {
        int days = draw(4) == 0 ? number(1, 30) : number(1, 2);
        same("passDays", "" + days, () -> shed.passDays(days), () -> reference.passDays(days));
    }

    private void back() {
        switch (draw(6)) {
            case 0 -> same("save", "", shed::save, reference::save);
            case 1 -> same("restore", "", shed::restore, reference::restore);
            default -> same("undo", "", shed::undo, reference::undo);
        }
    }

    private void look() {
        int lot = lotId();
        switch (draw(8)) {
            case 0 -> lookAtLot(lot);
            case 1 -> lookAtLots();
            case 2 -> lookAtTariff();
            case 3 -> lookAtDamp();
            case 4 -> lookAtBond();
            case 5 -> lookAtStatistics();
            case 6 -> lookAtKept();
            default -> write(lot);
        }
    }

    private void lookAtLot(int lot) {
        switch (draw(8)) {
            case 0 -> same("kind", "" + lot, () -> shed.kind(lot), () -> reference.kind(lot));
            case 1 -> same("quantity", "" + lot, () -> shed.quantity(lot), () -> reference.quantity(lot));
            case 2 -> same("price", "" + lot, () -> shed.price(lot), () -> reference.price(lot));
            case 3 -> same("value", "" + lot, () -> shed.value(lot), () -> reference.value(lot));
            case 4 -> same("bay", "" + lot, () -> shed.bay(lot), () -> reference.bay(lot));
            case 5 -> same("isSealed", "" + lot, () -> shed.isSealed(lot), () -> reference.isSealed(lot));
            case 6 -> same("isDamp", "" + lot, () -> shed.isDamp(lot), () -> reference.isDamp(lot));
            default -> same("duty", "" + lot, () -> shed.duty(lot), () -> reference.duty(lot));
        }
    }

    private void lookAtLots() {
        int bay = number(0, 23);
        int place = number(0, 15);
        char kind = kindSign();
        switch (draw(6)) {
            case 0 -> same("lotCount", "", shed::lotCount, reference::lotCount);
            case 1 -> same("lot", "" + place, () -> shed.lot(place), () -> reference.lot(place));
            case 2 -> same("lotAt", "" + bay, () -> shed.lotAt(bay), () -> reference.lotAt(bay));
            case 3 -> same("nextEmptyBay", "" + bay, () -> shed.nextEmptyBay(bay), () -> reference.nextEmptyBay(bay));
            case 4 -> same("quantityOfKind", "" + (int) kind, () -> shed.quantityOfKind(kind),
                    () -> reference.quantityOfKind(kind));
            default -> same("lotByValue", "" + place, () -> shed.lotByValue(place), () -> reference.lotByValue(place));
        }
    }

    private void lookAtTariff() {
        int step = number(0, 5);
        int value = number(0, draw(2) == 0 ? 9999 : 50);
        switch (draw(7)) {
            case 0 -> same("stepCount", "", shed::stepCount, reference::stepCount);
            case 1 -> same("threshold", "" + step, () -> shed.threshold(step), () -> reference.threshold(step));
            case 2 -> same("rate", "" + step, () -> shed.rate(step), () -> reference.rate(step));
            case 3 -> same("dutyOn", "" + value, () -> shed.dutyOn(value), () -> reference.dutyOn(value));
            case 4 -> same("dutyOnByCoins", "" + value, () -> shed.dutyOnByCoins(value), () -> reference.dutyOn(value));
            case 5 -> same("totalDuty", "", shed::totalDuty, reference::totalDuty);
            default -> same("totalDutyByBays", "", shed::totalDutyByBays, reference::totalDuty);
        }
    }

    private void lookAtDamp() {
        int days = number(0, 30);
        switch (draw(6)) {
            case 0 -> same("day", "", shed::day, reference::day);
            case 1 -> same("dampCount", "", shed::dampCount, reference::dampCount);
            case 2 -> same("dampAfter", "" + days, () -> shed.dampAfter(days), () -> reference.dampAfter(days));
            case 3 -> same("dampReach", "", shed::dampReach, reference::dampReach);
            case 4 -> same("dampReachByStretches", "", shed::dampReachByStretches, reference::dampReach);
            default -> same("destroyedCount", "", shed::destroyedCount, reference::destroyedCount);
        }
    }

    private void lookAtBond() {
        int place = number(0, 6);
        switch (draw(5)) {
            case 0 -> same("queueLength", "", shed::queueLength, reference::queueLength);
            case 1 -> same("queued", "" + place, () -> shed.queued(place), () -> reference.queued(place));
            case 2 -> same("bond", "", shed::bond, reference::bond);
            case 3 -> same("collected", "", shed::collected, reference::collected);
            default -> same("mostReleases", "", shed::mostReleases, reference::mostReleases);
        }
    }

    private void lookAtStatistics() {
        switch (draw(4)) {
            case 0 -> same("meanValue", "", shed::meanValue, reference::meanValue);
            case 1 -> same("sealedFraction", "", shed::sealedFraction, reference::sealedFraction);
            case 2 -> same("undoCount", "", shed::undoCount, reference::undoCount);
            default -> same("isConsistent", "", shed::isConsistent, () -> true);
        }
    }

    private void lookAtKept() {
        switch (draw(3)) {
            case 0 -> same("errorPosition", "", shed::errorPosition, reference::errorPosition);
            case 1 -> same("failedCommand", "", shed::failedCommand, reference::failedCommand);
            default -> {
                char character = (char) draw(draw(2) == 0 ? 65536 : 128);
                same("feed", "" + (int) character, () -> shed.feed(character), () -> reference.feed(character));
                same("execute", "", shed::execute, reference::execute);
            }
        }
    }

    private void write(int lot) {
        if (draw(2) == 0) {
            same("writeLot", "" + lot, () -> shed.writeLot(lot), () -> reference.writeLot(lot));
        } else if (draw(2) == 0) {
            same("writeBays", "", shed::writeBays, reference::writeBays);
        }
        for (int times = draw(12); times > 0; times--) {
            int index = number(0, draw(2) == 0 ? 11 : 24);
            same("outputCharacter", "" + index, () -> shed.outputCharacter(index),
                    () -> reference.outputCharacter(index));
        }
    }

    // ---- texts ----

    private void text() {
        StringBuilder text = new StringBuilder(command());
        for (int more = draw(5); more > 0 && text.length() < 56; more--) {
            text.append(';').append(command());
        }
        if (draw(3) == 0) {
            spoil(text);
        }
        for (int index = 0; index < text.length(); index++) {
            char character = text.charAt(index);
            same("feed", "" + (int) character, () -> shed.feed(character), () -> reference.feed(character));
        }
        same("execute", "", shed::execute, reference::execute);
        same("errorPosition", "", shed::errorPosition, reference::errorPosition);
        same("failedCommand", "", shed::failedCommand, reference::failedCommand);
        same("undoCount", "", shed::undoCount, reference::undoCount);
    }

    private void spoil(StringBuilder text) {
        char character = ";*@= 0a1#%lsdqbwmr~".charAt(draw(19));
        int place = draw(text.length());
        switch (draw(4)) {
            case 0 -> text.setCharAt(place, character);
            case 1 -> text.insert(place, character);
            case 2 -> text.deleteCharAt(place);
            default -> text.setLength(place);
        }
    }

    private String command() {
        int lot = Math.max(0, lotId());
        int bay = Math.abs(bayNumber() % 30);
        String[] verbs = {"seal ", "open ", "wet ", "queue ", "release "};
        switch (draw(9)) {
            case 0, 1:
                return "lot " + (char) ('a' + draw(5)) + digits(number(1, 99)) + "*" + digits(amount()) + "@" + bay;
            case 2:
                return "move " + digits(lot) + "@" + bay;
            case 3:
                return "audit";
            case 4:
                return "step " + digits(thresholdNumber()) + "=" + digits(number(0, 100));
            case 5:
                return "bond " + digits(number(1, 999));
            case 6:
                return "day";
            default:
                return verbs[draw(5)] + digits(lot);
        }
    }

    private static String digits(int number) {
        String digits = String.valueOf(Math.abs(number % 10000));
        return draw(8) == 0 ? "0".repeat(4 - digits.length()) + digits : digits;
    }
}
