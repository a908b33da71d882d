import java.util.ArrayDeque;
import java.util.ArrayList;
import java.util.Arrays;
import java.util.List;
import java.util.Map;
import java.util.NoSuchElementException;
import java.util.TreeMap;
import java.util.function.IntSupplier;
import java.util.regex.Matcher;
import java.util.regex.Pattern;

/** The document once more, written another way: maps, copies, exceptions and patterns. */
final class Reference {
    private static final String NUMBER = "([0-9]{1,4})";
    private static final String COMMAND = ("(?:lot ([a-e])N\\*N@N|(seal|open|wet|queue|release) N"
            + "|(move) N@N|(audit)|(step) N=N|(bond) N|(day))").replace("N", NUMBER);
    private static final Pattern TEXT = Pattern.compile(COMMAND + "(?:;" + COMMAND + ")*");

    private static final class Lot {
        char kind;
        int quantity;
        int price;
        int bay;
        boolean sealed = true;
        boolean damp;

        Lot copy() {
            Lot copy = new Lot();
            copy.kind = kind;
            copy.quantity = quantity;
            copy.price = price;
            copy.bay = bay;
            copy.sealed = sealed;
            copy.damp = damp;
            return copy;
        }
    }

    private static final class State {
        final TreeMap<Integer, Lot> lots = new TreeMap<>();
        final TreeMap<Integer, Integer> steps = new TreeMap<>();
        final List<Integer> queue = new ArrayList<>();
        int nextId;
        int bond;
        int collected;
        int day;
        int destroyed;

        State copy() {
            State copy = new State();
            lots.forEach((id, lot) -> copy.lots.put(id, lot.copy()));
            copy.steps.putAll(steps);
            copy.queue.addAll(queue);
            copy.nextId = nextId;
            copy.bond = bond;
            copy.collected = collected;
            copy.day = day;
            copy.destroyed = destroyed;
            return copy;
        }
    }

    private State state = new State();
    private State saved;
    private final ArrayDeque<State> undoable = new ArrayDeque<>();
    private String input = "";
    private String output = "";
    private Integer errorPosition;
    private Integer failedCommand;

    private int change(IntSupplier call) {
        State before = state.copy();
        int answer;
        try {
            answer = call.getAsInt();
        } catch (RuntimeException refused) {
            state = before;
            throw refused;
        }
        undoable.addLast(before);
        if (undoable.size() > 8) {
            undoable.removeFirst();
        }
        return answer;
    }

    private Lot find(int id) {
        Lot lot = state.lots.get(id);
        if (lot == null) {
            throw new NoSuchElementException();
        }
        return lot;
    }

    private static void need(boolean holds, RuntimeException otherwise) {
        if (!holds) {
            throw otherwise;
        }
    }

    private static void needBay(int bay) {
        need(0 <= bay && bay <= 23, new IndexOutOfBoundsException());
    }

    private Integer at(int bay) {
        for (Map.Entry<Integer, Lot> entry : state.lots.entrySet()) {
            if (entry.getValue().bay == bay) {
                return entry.getKey();
            }
        }
        return null;
    }

    private int sealedLots() {
        return (int) state.lots.values().stream().filter(lot -> lot.sealed).count();
    }

    int addLot(char kind, int quantity, int price, int bay) {
        return change(() -> doAdd(kind, quantity, price, bay));
    }

    private int doAdd(char kind, int quantity, int price, int bay) {
        needBay(bay);
        need("abcde".indexOf(kind) >= 0, new IllegalArgumentException());
        need(quantity > 0 && quantity < 100 && price > 0 && price < 100, new IllegalArgumentException());
        need(state.lots.size() < 16, new IllegalStateException());
        need(at(bay) == null, new UnsupportedOperationException());
        Lot lot = new Lot();
        lot.kind = kind;
        lot.quantity = quantity;
        lot.price = price;
        lot.bay = bay;
        state.lots.put(state.nextId, lot);
        return state.nextId++;
    }

    int seal(int id) {
        return change(() -> doSeal(id));
    }

    private int doSeal(int id) {
        Lot lot = find(id);
        need(!lot.sealed, new IllegalStateException());
        need(!lot.damp, new UnsupportedOperationException());
        lot.sealed = true;
        return sealedLots();
    }

    int open(int id) {
        return change(() -> doOpen(id));
    }

    private int doOpen(int id) {
        Lot lot = find(id);
        need(lot.sealed, new IllegalStateException());
        lot.sealed = false;
        return sealedLots();
    }

    int wet(int id) {
        return change(() -> doWet(id));
    }

    private int doWet(int id) {
        Lot lot = find(id);
        need(!lot.sealed && !lot.damp, new IllegalStateException());
        lot.damp = true;
        return dampCount();
    }

    int move(int id, int bay) {
        return change(() -> doMove(id, bay));
    }

    private int doMove(int id, int bay) {
        Lot lot = find(id);
        needBay(bay);
        need(at(bay) == null, new UnsupportedOperationException());
        int before = lot.bay;
        lot.bay = bay;
        return before;
    }

    int lotCount() {
        return state.lots.size();
    }

    int lot(int position) {
        need(position >= 0 && position < state.lots.size(), new IndexOutOfBoundsException());
        return new ArrayList<>(state.lots.keySet()).get(position);
    }

    char kind(int id) {
        return find(id).kind;
    }

    int quantity(int id) {
        return find(id).quantity;
    }

    int price(int id) {
        return find(id).price;
    }

    int value(int id) {
        return find(id).quantity * find(id).price;
    }

    int bay(int id) {
        return find(id).bay;
    }

    boolean isSealed(int id) {
        return find(id).sealed;
    }

    boolean isDamp(int id) {
        return find(id).damp;
    }

    int lotAt(int bay) {
        needBay(bay);
        Integer id = at(bay);
        need(id != null, new NoSuchElementException());
        return id;
    }

    int nextEmptyBay(int bay) {
        needBay(bay);
        int next = bay;
        while (next < 24 && at(next) != null) {
            next++;
        }
        need(next < 24, new NoSuchElementException());
        return next;
    }

    int quantityOfKind(char kind) {
        need("abcde".indexOf(kind) >= 0, new IllegalArgumentException());
        return state.lots.values().stream().filter(lot -> lot.kind == kind).mapToInt(lot -> lot.quantity).sum();
    }

    int lotByValue(int rank) {
        List<Integer> ids = new ArrayList<>(state.lots.keySet());
        ids.sort((one, other) -> value(other) - value(one));
        need(rank >= 0 && rank < ids.size(), new IndexOutOfBoundsException());
        return ids.get(rank);
    }

    int addStep(int threshold, int rate) {
        return change(() -> doStep(threshold, rate));
    }

    private int doStep(int threshold, int rate) {
        need(threshold >= 0 && threshold <= 9999 && rate >= 0 && rate <= 100, new IllegalArgumentException());
        need(!state.steps.containsKey(threshold), new UnsupportedOperationException());
        need(state.steps.size() < 6, new IllegalStateException());
        state.steps.put(threshold, rate);
        return state.steps.size();
    }

    int removeStep(int threshold) {
        return change(() -> {
            need(state.steps.containsKey(threshold), new NoSuchElementException());
            return state.steps.remove(threshold);
        });
    }

    int stepCount() {
        return state.steps.size();
    }

    int threshold(int step) {
        need(step >= 0 && step < state.steps.size(), new IndexOutOfBoundsException());
        return new ArrayList<>(state.steps.keySet()).get(step);
    }

    int rate(int step) {
        return state.steps.get(threshold(step));
    }

    /** The rate of a step less the one before it counts for all coins above its threshold. */
    int dutyOn(int value) {
        need(value >= 0 && value <= 9999, new IllegalArgumentException());
        int sum = 0;
        int before = 0;
        for (Map.Entry<Integer, Integer> step : state.steps.entrySet()) {
            if (value > step.getKey()) {
                sum += (value - step.getKey()) * (step.getValue() - before);
            }
            before = step.getValue();
        }
        return sum / 100;
    }

    int duty(int id) {
        return find(id).sealed ? 0 : dutyOn(value(id));
    }

    int totalDuty() {
        return state.lots.keySet().stream().mapToInt(this::duty).sum();
    }

    int passDays(int days) {
        return change(() -> {
            need(days >= 1 && days <= 30, new IllegalArgumentException());
            int sum = 0;
            for (int day = 0; day < days; day++) {
                sum += doDay();
            }
            return sum;
        });
    }

    private int doDay() {
        boolean[] dampBays = new boolean[26];
        List<Integer> dampIds = new ArrayList<>();
        state.lots.forEach((id, lot) -> {
            if (lot.damp) {
                dampBays[lot.bay + 1] = true;
                dampIds.add(id);
            }
        });
        for (Lot lot : state.lots.values()) {
            if (!lot.sealed && (dampBays[lot.bay] || dampBays[lot.bay + 2])) {
                lot.damp = true;
            }
        }
        int gone = 0;
        for (Integer id : dampIds) {
            Lot lot = find(id);
            lot.quantity--;
            if (lot.quantity == 0) {
                state.lots.remove(id);
                state.queue.remove(id);
                gone++;
            }
        }
        state.day++;
        state.destroyed += gone;
        return gone;
    }

    int day() {
        return state.day;
    }

    int dampCount() {
        return (int) state.lots.values().stream().filter(lot -> lot.damp).count();
    }

    int dampAfter(int days) {
        need(days >= 0 && days <= 30, new IllegalArgumentException());
        State before = state.copy();
        for (int day = 0; day < days; day++) {
            doDay();
        }
        int count = dampCount();
        state = before;
        return count;
    }

    /** Reached bays grow until they grow no more. */
    int dampReach() {
        boolean[] reached = new boolean[26];
        int count = -1;
        int now = 0;
        while (now != count) {
            count = now;
            now = 0;
            for (Lot lot : state.lots.values()) {
                boolean isNext = reached[lot.bay] || reached[lot.bay + 2];
                reached[lot.bay + 1] |= lot.damp || !lot.sealed && isNext;
                now += reached[lot.bay + 1] ? 1 : 0;
            }
        }
        return count;
    }

    int destroyedCount() {
        return state.destroyed;
    }

    int enqueue(int id) {
        return change(() -> doEnqueue(id));
    }

    private int doEnqueue(int id) {
        find(id);
        need(!state.queue.contains(id), new IllegalStateException());
        state.queue.add(id);
        return state.queue.size();
    }

    int audit() {
        return change(this::doAudit);
    }

    private int doAudit() {
        need(!state.queue.isEmpty(), new NoSuchElementException());
        int id = state.queue.remove(0);
        find(id).sealed = false;
        return id;
    }

    int queueLength() {
        return state.queue.size();
    }

    int queued(int position) {
        need(position >= 0 && position < state.queue.size(), new IndexOutOfBoundsException());
        return state.queue.get(position);
    }

    int deposit(int coins) {
        return change(() -> doDeposit(coins));
    }

    private int doDeposit(int coins) {
        need(coins >= 1 && coins <= 999, new IllegalArgumentException());
        need(state.bond <= 9999 - coins, new IllegalStateException());
        state.bond += coins;
        return state.bond;
    }

    int release(int id) {
        return change(() -> doRelease(id));
    }

    private int doRelease(int id) {
        int duty = duty(id);
        need(state.bond >= duty, new UnsupportedOperationException());
        state.bond -= duty;
        state.collected += duty;
        state.lots.remove(id);
        state.queue.remove((Integer) id);
        return duty;
    }

    int bond() {
        return state.bond;
    }

    int collected() {
        return state.collected;
    }

    int mostReleases() {
        int[] duties = state.lots.keySet().stream().mapToInt(this::duty).sorted().toArray();
        int count = 0;
        while (count < duties.length && Arrays.stream(duties, 0, count + 1).sum() <= state.bond) {
            count++;
        }
        return count;
    }

    double meanValue() {
        need(!state.lots.isEmpty(), new ArithmeticException());
        return (double) state.lots.keySet().stream().mapToInt(this::value).sum() / (double) state.lots.size();
    }

    float sealedFraction() {
        need(!state.lots.isEmpty(), new ArithmeticException());
        return (float) sealedLots() / (float) state.lots.size();
    }

    int writeLot(int id) {
        Lot lot = find(id);
        output = lot.kind + "" + lot.quantity + "*" + lot.price + "@" + lot.bay + (lot.sealed ? "#" : "")
                + (lot.damp ? "~" : "") + (state.queue.contains(id) ? "?" : "");
        return output.length();
    }

    int writeBays() {
        StringBuilder bays = new StringBuilder(".".repeat(24));
        for (Lot lot : state.lots.values()) {
            char sign = lot.sealed ? Character.toUpperCase(lot.kind) : lot.kind;
            bays.setCharAt(lot.bay, lot.damp ? '~' : sign);
        }
        output = bays.toString();
        return 24;
    }

    char outputCharacter(int index) {
        need(index >= 0 && index < output.length(), new IndexOutOfBoundsException());
        return output.charAt(index);
    }

    int feed(char character) {
        need(input.length() < 60, new IllegalStateException());
        input += character;
        return input.length();
    }

    int execute() {
        String text = input;
        input = "";
        if (!TEXT.matcher(text).matches()) {
            errorPosition = firstWrong(text);
            throw new IllegalArgumentException();
        }
        String[] commands = text.split(";");
        return change(() -> {
            for (int index = 0; index < commands.length; index++) {
                try {
                    perform(commands[index]);
                } catch (RuntimeException refused) {
                    failedCommand = index;
                    throw new UnsupportedOperationException();
                }
            }
            return commands.length;
        });
    }

    /** A beginning can be continued if it matches, or if the pattern wants more at its end. */
    private static int firstWrong(String text) {
        for (int length = 1; length <= text.length(); length++) {
            Matcher matcher = TEXT.matcher(text.substring(0, length));
            if (!matcher.matches() && !matcher.hitEnd()) {
                return length - 1;
            }
        }
        return text.length();
    }

    private void perform(String command) {
        List<Integer> numbers = new ArrayList<>();
        for (String part : command.split("[^0-9]+")) {
            if (!part.isEmpty()) {
                numbers.add(Integer.parseInt(part));
            }
        }
        switch (command.split(" ")[0]) {
            case "lot" -> doAdd(command.charAt(4), numbers.get(0), numbers.get(1), numbers.get(2));
            case "seal" -> doSeal(numbers.get(0));
            case "open" -> doOpen(numbers.get(0));
            case "wet" -> doWet(numbers.get(0));
            case "queue" -> doEnqueue(numbers.get(0));
            case "release" -> doRelease(numbers.get(0));
            case "move" -> doMove(numbers.get(0), numbers.get(1));
            case "audit" -> doAudit();
            case "step" -> doStep(numbers.get(0), numbers.get(1));
            case "bond" -> doDeposit(numbers.get(0));
            default -> doDay();
        }
    }

    int errorPosition() {
        need(errorPosition != null, new NoSuchElementException());
        return errorPosition;
    }

    int failedCommand() {
        need(failedCommand != null, new NoSuchElementException());
        return failedCommand;
    }

    int undo() {
        need(!undoable.isEmpty(), new IllegalStateException());
        state = undoable.removeLast();
        return undoable.size();
    }

    int undoCount() {
        return undoable.size();
    }

    int save() {
        saved = state.copy();
        return saved.lots.size();
    }

    int restore() {
        need(saved != null, new IllegalStateException());
        state = saved.copy();
        undoable.clear();
        return state.lots.size();
    }
}
