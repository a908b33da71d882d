import java.util.NoSuchElementException;

/**
 * A customs shed: lots in a row of bays, seals, a progressive tariff, damp, an audit queue, a bond,
 * text commands and undo.
 */
public final class CustomsShed {
    private static final int BAYS = 24;
    private static final int MOST_LOTS = 16;
    private static final int MOST_STEPS = 6;
    private static final int MOST_BOND = 9999;
    private static final int MOST_DAYS = 30;
    private static final int MOST_VALUE = 9999;
    private static final int MOST_CHARACTERS = 60;
    private static final int MOST_UNDONE = 8;
    private static final int NONE = -1;

    // An action on the shed answers 0 or more if it is done. It answers one of these, and has
    // changed nothing, if it is refused: so the methods and the text commands share the actions,
    // and no command needs to catch what another method throws.
    private static final int NO_SUCH_ELEMENT = -1;
    private static final int OUT_OF_BOUNDS = -2;
    private static final int ILLEGAL_ARGUMENT = -3;
    private static final int ILLEGAL_STATE = -4;
    private static final int UNSUPPORTED = -5;

    private final Shed shed = new Shed();
    private final Shed forecast = new Shed();
    private final History history = new History();
    private final CommandText text = new CommandText();
    private final StringBuilder output = new StringBuilder();
    private final int[] dutyRow = new int[MOST_LOTS];
    private final int[] bayRow = new int[BAYS];
    private Shed saved = null;
    private int keptErrorPosition = NONE;
    private int keptFailedCommand = NONE;

    public CustomsShed() {
    }

    // ---- lots ----

    public int addLot(char kind, int quantity, int price, int bay) throws IndexOutOfBoundsException,
            IllegalArgumentException, IllegalStateException, UnsupportedOperationException {
        history.prepare(shed);
        return settle(shed.takeIn(kind, quantity, price, bay));
    }

    public int seal(int lot)
            throws NoSuchElementException, IllegalStateException, UnsupportedOperationException {
        history.prepare(shed);
        return settle(shed.sealLot(lot));
    }

    public int open(int lot) throws NoSuchElementException, IllegalStateException {
        history.prepare(shed);
        return settle(shed.openLot(lot));
    }

    public int wet(int lot) throws NoSuchElementException, IllegalStateException {
        history.prepare(shed);
        return settle(shed.wetLot(lot));
    }

    public int move(int lot, int bay)
            throws NoSuchElementException, IndexOutOfBoundsException, UnsupportedOperationException {
        history.prepare(shed);
        return settle(shed.moveLot(lot, bay));
    }

    public int lotCount() {
        return shed.lots.count;
    }

    public int lot(int position) throws IndexOutOfBoundsException {
        checkIndex(position, shed.lots.count);
        return shed.lots.ids[position];
    }

    public char kind(int lot) throws NoSuchElementException {
        return shed.lots.kinds[slotOf(lot)];
    }

    public int quantity(int lot) throws NoSuchElementException {
        return shed.lots.quantities[slotOf(lot)];
    }

    public int price(int lot) throws NoSuchElementException {
        return shed.lots.prices[slotOf(lot)];
    }

    public int value(int lot) throws NoSuchElementException {
        return shed.lots.valueOf(slotOf(lot));
    }

    public int bay(int lot) throws NoSuchElementException {
        return shed.lots.bays[slotOf(lot)];
    }

    public boolean isSealed(int lot) throws NoSuchElementException {
        return shed.lots.underSeal[slotOf(lot)];
    }

    public boolean isDamp(int lot) throws NoSuchElementException {
        return shed.lots.damp[slotOf(lot)];
    }

    public int lotAt(int bay) throws IndexOutOfBoundsException, NoSuchElementException {
        checkIndex(bay, BAYS);
        int slot = shed.lots.slotAt(bay);
        if (slot < 0) {
            throw new NoSuchElementException("the bay is empty");
        }
        return shed.lots.ids[slot];
    }

    public int nextEmptyBay(int bay) throws IndexOutOfBoundsException, NoSuchElementException {
        checkIndex(bay, BAYS);
        for (int next = bay; next < BAYS; next++) {
            if (shed.lots.slotAt(next) < 0) {
                return next;
            }
        }
        throw new NoSuchElementException("no empty bay from there on");
    }

    public int quantityOfKind(char kind) throws IllegalArgumentException {
        if (!isKind(kind)) {
            throw new IllegalArgumentException("a kind is from a to e");
        }
        return shed.lots.quantityOf(kind);
    }

    public int lotByValue(int rank) throws IndexOutOfBoundsException {
        int slot = shed.lots.slotByValue(rank);
        if (slot < 0) {
            throw new IndexOutOfBoundsException("no such rank");
        }
        return shed.lots.ids[slot];
    }

    // ---- tariff ----

    public int addStep(int threshold, int rate)
            throws IllegalArgumentException, UnsupportedOperationException, IllegalStateException {
        history.prepare(shed);
        return settle(shed.tariff.insert(threshold, rate));
    }

    public int removeStep(int threshold) throws NoSuchElementException {
        history.prepare(shed);
        return settle(shed.tariff.remove(threshold));
    }

    public int stepCount() {
        return shed.tariff.count;
    }

    public int threshold(int step) throws IndexOutOfBoundsException {
        checkIndex(step, shed.tariff.count);
        return shed.tariff.thresholds[step];
    }

    public int rate(int step) throws IndexOutOfBoundsException {
        checkIndex(step, shed.tariff.count);
        return shed.tariff.rates[step];
    }

    public int dutyOn(int value) throws IllegalArgumentException {
        checkValue(value);
        return shed.tariff.dutyByParts(value);
    }

    public int dutyOnByCoins(int value) throws IllegalArgumentException {
        checkValue(value);
        return shed.tariff.dutyByCoins(value);
    }

    public int duty(int lot) throws NoSuchElementException {
        return shed.dutyOf(slotOf(lot));
    }

    public int totalDuty() {
        return shed.dutyInOrderOfIds();
    }

    public int totalDutyByBays() {
        return shed.dutyBayByBay();
    }

    // ---- damp and days ----

    public int passDays(int days) throws IllegalArgumentException {
        history.prepare(shed);
        return settle(shed.letPass(days));
    }

    public int day() {
        return shed.daysPassed;
    }

    public int dampCount() {
        return shed.lots.countDamp();
    }

    public int dampAfter(int days) throws IllegalArgumentException {
        if (days < 0 || days > MOST_DAYS) {
            throw new IllegalArgumentException("days are from 0 to 30");
        }
        forecast.copyFrom(shed);
        if (days > 0) {
            forecast.letPass(days);
        }
        return forecast.lots.countDamp();
    }

    public int dampReach() {
        return shed.lots.reachByQueue(bayRow);
    }

    public int dampReachByStretches() {
        return shed.lots.reachByStretches();
    }

    public int destroyedCount() {
        return shed.destroyed;
    }

    // ---- audits and bond ----

    public int enqueue(int lot) throws NoSuchElementException, IllegalStateException {
        history.prepare(shed);
        return settle(shed.queueLot(lot));
    }

    public int audit() throws NoSuchElementException {
        history.prepare(shed);
        return settle(shed.auditFirst());
    }

    public int queueLength() {
        return shed.queue.length;
    }

    public int queued(int position) throws IndexOutOfBoundsException {
        checkIndex(position, shed.queue.length);
        return shed.queue.ids[position];
    }

    public int deposit(int coins) throws IllegalArgumentException, IllegalStateException {
        history.prepare(shed);
        return settle(shed.takeCoins(coins));
    }

    public int release(int lot) throws NoSuchElementException, UnsupportedOperationException {
        history.prepare(shed);
        return settle(shed.releaseLot(lot));
    }

    public int bond() {
        return shed.coins;
    }

    public int collected() {
        return shed.coinsTaken;
    }

    public int mostReleases() {
        return shed.countReleases(dutyRow);
    }

    // ---- statistics and output ----

    public double meanValue() throws ArithmeticException {
        int count = shed.lots.count;
        if (count == 0) {
            throw new ArithmeticException("no lots");
        }
        return (double) shed.lots.sumOfValues() / (double) count;
    }

    public float sealedFraction() throws ArithmeticException {
        int count = shed.lots.count;
        if (count == 0) {
            throw new ArithmeticException("no lots");
        }
        return (float) shed.lots.countSealed() / (float) count;
    }

    public int writeLot(int lot) throws NoSuchElementException {
        int slot = slotOf(lot);
        Lots lots = shed.lots;
        output.setLength(0);
        output.append(lots.kinds[slot]).append(lots.quantities[slot]);
        output.append('*').append(lots.prices[slot]);
        output.append('@').append(lots.bays[slot]);
        if (lots.underSeal[slot]) {
            output.append('#');
        }
        if (lots.damp[slot]) {
            output.append('~');
        }
        if (shed.queue.placeOf(lot) >= 0) {
            output.append('?');
        }
        return output.length();
    }

    public int writeBays() {
        output.setLength(0);
        for (int bay = 0; bay < BAYS; bay++) {
            output.append(shed.lots.signOfBay(bay));
        }
        return output.length();
    }

    public char outputCharacter(int index) throws IndexOutOfBoundsException {
        checkIndex(index, output.length());
        return output.charAt(index);
    }

    public boolean isConsistent() {
        return shed.dutiesAgree()
                && shed.dutyInOrderOfIds() == shed.dutyBayByBay()
                && shed.lots.reachByQueue(bayRow) == shed.lots.reachByStretches();
    }

    // ---- commands ----

    public int feed(char character) throws IllegalStateException {
        if (!text.append(character)) {
            throw new IllegalStateException("the input buffer is full");
        }
        return text.length;
    }

    public int execute() throws IllegalArgumentException, UnsupportedOperationException {
        int commands = text.countCommands();
        if (commands < 0) {
            keptErrorPosition = text.cursor;
            text.clear();
            throw new IllegalArgumentException("the text is malformed");
        }
        history.prepare(shed);
        int performed = performFirst(commands);
        text.clear();
        if (performed < commands) {
            keptFailedCommand = performed;
            history.takeBack(shed);
            throw new UnsupportedOperationException("a command failed");
        }
        history.keepPrepared();
        return commands;
    }

    public int errorPosition() throws NoSuchElementException {
        if (keptErrorPosition < 0) {
            throw new NoSuchElementException("no error position was kept");
        }
        return keptErrorPosition;
    }

    public int failedCommand() throws NoSuchElementException {
        if (keptFailedCommand < 0) {
            throw new NoSuchElementException("no failed command was kept");
        }
        return keptFailedCommand;
    }

    // ---- undo and saved state ----

    public int undo() throws IllegalStateException {
        if (history.count == 0) {
            throw new IllegalStateException("no change can be undone");
        }
        history.undoLatest(shed);
        return history.count;
    }

    public int undoCount() {
        return history.count;
    }

    public int save() {
        Shed kept = saved;
        if (kept == null) {
            kept = new Shed();
            saved = kept;
        }
        kept.copyFrom(shed);
        return shed.lots.count;
    }

    public int restore() throws IllegalStateException {
        Shed kept = saved;
        if (kept == null) {
            throw new IllegalStateException("nothing was saved");
        }
        shed.copyFrom(kept);
        history.forget();
        return shed.lots.count;
    }

    // ---- helpers ----

    /** Records the change that answered so, or throws what its refusal stands for. */
    private int settle(int answer) {
        if (answer < 0) {
            throwFor(answer);
        }
        history.keepPrepared();
        return answer;
    }

    private static void throwFor(int refusal) {
        switch (refusal) {
            case NO_SUCH_ELEMENT:
                throw new NoSuchElementException();
            case OUT_OF_BOUNDS:
                throw new IndexOutOfBoundsException();
            case ILLEGAL_ARGUMENT:
                throw new IllegalArgumentException();
            case ILLEGAL_STATE:
                throw new IllegalStateException();
            default:
                throw new UnsupportedOperationException();
        }
    }

    private static void checkIndex(int index, int length) {
        if (index < 0 || index >= length) {
            throw new IndexOutOfBoundsException();
        }
    }

    private static void checkValue(int value) {
        if (value < 0 || value > MOST_VALUE) {
            throw new IllegalArgumentException("a value is from 0 to 9999");
        }
    }

    private int slotOf(int lot) {
        int slot = shed.lots.slotWith(lot);
        if (slot < 0) {
            throw new NoSuchElementException("no such lot");
        }
        return slot;
    }

    /** Performs so many commands of a well-formed text, and answers how many went well. */
    private int performFirst(int commands) {
        text.rewind();
        for (int index = 0; index < commands; index++) {
            if (!text.readCommand() || shed.perform(text) < 0) {
                return index;
            }
            text.skipSemicolon();
        }
        return commands;
    }

    private static boolean isKind(char character) {
        return character >= 'a' && character <= 'e';
    }

    private static boolean isBay(int bay) {
        return bay >= 0 && bay < BAYS;
    }

    /** Sets of bays are numbers with a bit for each bay. */
    private static boolean hasBay(int bays, int bay) {
        return isBay(bay) && (bays >> bay & 1) != 0;
    }

    /** The lots, each in a slot of the rows, in ascending order of their ids. */
    private static final class Lots {
        private final int[] ids = new int[MOST_LOTS];
        private final char[] kinds = new char[MOST_LOTS];
        private final int[] quantities = new int[MOST_LOTS];
        private final int[] prices = new int[MOST_LOTS];
        private final int[] bays = new int[MOST_LOTS];
        private final boolean[] underSeal = new boolean[MOST_LOTS];
        private final boolean[] damp = new boolean[MOST_LOTS];
        private int count = 0;
        private int nextId = 0;

        int slotWith(int id) {
            for (int slot = 0; slot < count; slot++) {
                if (ids[slot] == id) {
                    return slot;
                }
            }
            return NONE;
        }

        int slotAt(int bay) {
            for (int slot = 0; slot < count; slot++) {
                if (bays[slot] == bay) {
                    return slot;
                }
            }
            return NONE;
        }

        int valueOf(int slot) {
            return quantities[slot] * prices[slot];
        }

        int sumOfValues() {
            int sum = 0;
            for (int slot = 0; slot < count; slot++) {
                sum += valueOf(slot);
            }
            return sum;
        }

        int quantityOf(char kind) {
            int sum = 0;
            for (int slot = 0; slot < count; slot++) {
                if (kinds[slot] == kind) {
                    sum += quantities[slot];
                }
            }
            return sum;
        }

        int slotByValue(int rank) {
            for (int slot = 0; slot < count; slot++) {
                if (countAhead(slot) == rank) {
                    return slot;
                }
            }
            return NONE;
        }

        private int countAhead(int slot) {
            int value = valueOf(slot);
            int ahead = 0;
            for (int other = 0; other < count; other++) {
                int otherValue = valueOf(other);
                if (otherValue > value || otherValue == value && other < slot) {
                    ahead++;
                }
            }
            return ahead;
        }

        int countSealed() {
            int sum = 0;
            for (int slot = 0; slot < count; slot++) {
                if (underSeal[slot]) {
                    sum++;
                }
            }
            return sum;
        }

        int countDamp() {
            int sum = 0;
            for (int slot = 0; slot < count; slot++) {
                if (damp[slot]) {
                    sum++;
                }
            }
            return sum;
        }

        /** Adds a sealed, dry lot, if there is a slot, and answers its id. */
        int append(char kind, int quantity, int price, int bay) {
            if (count >= MOST_LOTS) {
                return ILLEGAL_STATE;
            }
            int id = nextId;
            ids[count] = id;
            kinds[count] = kind;
            quantities[count] = quantity;
            prices[count] = price;
            bays[count] = bay;
            underSeal[count] = true;
            damp[count] = false;
            count++;
            nextId++;
            return id;
        }

        void remove(int slot) {
            for (int to = slot; to + 1 < count; to++) {
                takeSlot(this, to + 1, to);
            }
            count--;
        }

        private void takeSlot(Lots source, int from, int to) {
            ids[to] = source.ids[from];
            kinds[to] = source.kinds[from];
            quantities[to] = source.quantities[from];
            prices[to] = source.prices[from];
            bays[to] = source.bays[from];
            underSeal[to] = source.underSeal[from];
            damp[to] = source.damp[from];
        }

        void copyFrom(Lots source) {
            for (int slot = 0; slot < source.count; slot++) {
                takeSlot(source, slot, slot);
            }
            count = source.count;
            nextId = source.nextId;
        }

        int baysOfDamp() {
            int found = 0;
            for (int slot = 0; slot < count; slot++) {
                if (damp[slot]) {
                    found |= 1 << bays[slot];
                }
            }
            return found;
        }

        private int baysOfOpen() {
            int found = 0;
            for (int slot = 0; slot < count; slot++) {
                if (!underSeal[slot]) {
                    found |= 1 << bays[slot];
                }
            }
            return found;
        }

        /** Makes the open lots damp that are next to one of these bays. */
        void spreadFrom(int dampBays) {
            for (int slot = 0; slot < count; slot++) {
                int bay = bays[slot];
                boolean atRisk = hasBay(dampBays, bay - 1) || hasBay(dampBays, bay + 1);
                if (atRisk && !underSeal[slot]) {
                    damp[slot] = true;
                }
            }
        }

        /** Spreads from bay to bay; the queue is a row of at least BAYS elements. */
        int reachByQueue(int[] queue) {
            int open = baysOfOpen();
            int reached = baysOfDamp();
            int end = 0;
            for (int bay = 0; bay < BAYS && end < queue.length; bay++) {
                if (hasBay(reached, bay)) {
                    queue[end] = bay;
                    end++;
                }
            }
            for (int first = 0; first < end && first < queue.length; first++) {
                for (int bay = queue[first] - 1; bay <= queue[first] + 1; bay += 2) {
                    if (hasBay(open, bay) && !hasBay(reached, bay) && end < queue.length) {
                        reached |= 1 << bay;
                        queue[end] = bay;
                        end++;
                    }
                }
            }
            return end;
        }

        int reachByStretches() {
            int reach = 0;
            int stretch = 0;
            boolean isReached = false;
            // One bay more than there are: it is empty, so the last stretch ends there.
            for (int bay = 0; bay <= BAYS; bay++) {
                int slot = slotAt(bay);
                if (slot < 0 || underSeal[slot]) {
                    reach += isReached ? stretch : 0;
                    stretch = 0;
                    isReached = false;
                } else {
                    stretch++;
                    isReached = isReached || damp[slot];
                }
            }
            return reach;
        }

        char signOfBay(int bay) {
            int slot = slotAt(bay);
            if (slot < 0) {
                return '.';
            }
            if (damp[slot]) {
                return '~';
            }
            char kind = kinds[slot];
            return underSeal[slot] ? (char) (kind - 'a' + 'A') : kind;
        }
    }

    /** The steps in ascending order of their thresholds. */
    private static final class Tariff {
        private static final int MOST_THRESHOLD = 9999;
        private static final int MOST_RATE = 100;

        private final int[] thresholds = new int[MOST_STEPS];
        private final int[] rates = new int[MOST_STEPS];
        private int count = 0;

        private int indexOf(int threshold) {
            for (int step = 0; step < count; step++) {
                if (thresholds[step] == threshold) {
                    return step;
                }
            }
            return NONE;
        }

        int insert(int threshold, int rate) {
            if (threshold < 0 || threshold > MOST_THRESHOLD || rate < 0 || rate > MOST_RATE) {
                return ILLEGAL_ARGUMENT;
            }
            if (indexOf(threshold) >= 0) {
                return UNSUPPORTED;
            }
            if (count >= MOST_STEPS) {
                return ILLEGAL_STATE;
            }
            int place = count;
            while (place > 0 && thresholds[place - 1] > threshold) {
                thresholds[place] = thresholds[place - 1];
                rates[place] = rates[place - 1];
                place--;
            }
            thresholds[place] = threshold;
            rates[place] = rate;
            count++;
            return count;
        }

        int remove(int threshold) {
            int place = indexOf(threshold);
            if (place < 0) {
                return NO_SUCH_ELEMENT;
            }
            int rate = rates[place];
            for (int step = place; step + 1 < count; step++) {
                thresholds[step] = thresholds[step + 1];
                rates[step] = rates[step + 1];
            }
            count--;
            return rate;
        }

        int dutyByParts(int value) {
            int sum = 0;
            for (int step = 0; step < count; step++) {
                int end = step + 1 < count ? Math.min(value, thresholds[step + 1]) : value;
                int part = Math.max(0, end - thresholds[step]);
                sum += part * rates[step];
            }
            return sum / 100;
        }

        int dutyByCoins(int value) {
            int sum = 0;
            int stepsBelow = 0;
            for (int coin = 1; coin <= value; coin++) {
                while (stepsBelow < count && thresholds[stepsBelow] < coin) {
                    stepsBelow++;
                }
                if (stepsBelow > 0) {
                    sum += rates[stepsBelow - 1];
                }
            }
            return sum / 100;
        }

        void copyFrom(Tariff source) {
            for (int step = 0; step < source.count; step++) {
                thresholds[step] = source.thresholds[step];
                rates[step] = source.rates[step];
            }
            count = source.count;
        }
    }

    /** The ids of the lots that wait for an audit, the first in front. */
    private static final class AuditQueue {
        private final int[] ids = new int[MOST_LOTS];
        private int length = 0;

        int placeOf(int id) {
            for (int place = 0; place < length; place++) {
                if (ids[place] == id) {
                    return place;
                }
            }
            return NONE;
        }

        /** Answers the length afterwards; a lot that waits, or a full queue, is refused. */
        int append(int id) {
            if (length >= MOST_LOTS || placeOf(id) >= 0) {
                return ILLEGAL_STATE;
            }
            ids[length] = id;
            length++;
            return length;
        }

        void remove(int id) {
            int kept = 0;
            for (int place = 0; place < length; place++) {
                if (ids[place] != id) {
                    ids[kept] = ids[place];
                    kept++;
                }
            }
            length = kept;
        }

        void copyFrom(AuditQueue source) {
            for (int place = 0; place < source.length; place++) {
                ids[place] = source.ids[place];
            }
            length = source.length;
        }
    }

    /** Everything that changes can change, with the actions that change it. */
    private static final class Shed {
        private static final int MOST_QUANTITY = 99;
        private static final int MOST_PRICE = 99;
        private static final int MOST_DEPOSIT = 999;

        private final Lots lots = new Lots();
        private final Tariff tariff = new Tariff();
        private final AuditQueue queue = new AuditQueue();
        private int coins = 0;
        private int coinsTaken = 0;
        private int daysPassed = 0;
        private int destroyed = 0;

        void copyFrom(Shed source) {
            lots.copyFrom(source.lots);
            tariff.copyFrom(source.tariff);
            queue.copyFrom(source.queue);
            coins = source.coins;
            coinsTaken = source.coinsTaken;
            daysPassed = source.daysPassed;
            destroyed = source.destroyed;
        }

        int takeIn(char kind, int quantity, int price, int bay) {
            if (!isBay(bay)) {
                return OUT_OF_BOUNDS;
            }
            boolean isGoodQuantity = quantity >= 1 && quantity <= MOST_QUANTITY;
            boolean isGoodPrice = price >= 1 && price <= MOST_PRICE;
            if (!isKind(kind) || !isGoodQuantity || !isGoodPrice) {
                return ILLEGAL_ARGUMENT;
            }
            if (lots.count >= MOST_LOTS) {
                return ILLEGAL_STATE;
            }
            if (lots.slotAt(bay) >= 0) {
                return UNSUPPORTED;
            }
            return lots.append(kind, quantity, price, bay);
        }

        int sealLot(int id) {
            int slot = lots.slotWith(id);
            if (slot < 0) {
                return NO_SUCH_ELEMENT;
            }
            if (lots.underSeal[slot]) {
                return ILLEGAL_STATE;
            }
            if (lots.damp[slot]) {
                return UNSUPPORTED;
            }
            lots.underSeal[slot] = true;
            return lots.countSealed();
        }

        int openLot(int id) {
            int slot = lots.slotWith(id);
            if (slot < 0) {
                return NO_SUCH_ELEMENT;
            }
            if (!lots.underSeal[slot]) {
                return ILLEGAL_STATE;
            }
            lots.underSeal[slot] = false;
            return lots.countSealed();
        }

        int wetLot(int id) {
            int slot = lots.slotWith(id);
            if (slot < 0) {
                return NO_SUCH_ELEMENT;
            }
            if (lots.underSeal[slot] || lots.damp[slot]) {
                return ILLEGAL_STATE;
            }
            lots.damp[slot] = true;
            return lots.countDamp();
        }

        int moveLot(int id, int bay) {
            int slot = lots.slotWith(id);
            if (slot < 0) {
                return NO_SUCH_ELEMENT;
            }
            if (!isBay(bay)) {
                return OUT_OF_BOUNDS;
            }
            if (lots.slotAt(bay) >= 0) {
                return UNSUPPORTED;
            }
            int before = lots.bays[slot];
            lots.bays[slot] = bay;
            return before;
        }

        int queueLot(int id) {
            if (lots.slotWith(id) < 0) {
                return NO_SUCH_ELEMENT;
            }
            return queue.append(id);
        }

        int auditFirst() {
            if (queue.length <= 0) {
                return NO_SUCH_ELEMENT;
            }
            int id = queue.ids[0];
            queue.remove(id);
            int slot = lots.slotWith(id);
            if (slot >= 0) {
                lots.underSeal[slot] = false;
            }
            return id;
        }

        int takeCoins(int deposited) {
            if (deposited < 1 || deposited > MOST_DEPOSIT) {
                return ILLEGAL_ARGUMENT;
            }
            if (coins + deposited > MOST_BOND) {
                return ILLEGAL_STATE;
            }
            coins += deposited;
            return coins;
        }

        int releaseLot(int id) {
            int slot = lots.slotWith(id);
            if (slot < 0) {
                return NO_SUCH_ELEMENT;
            }
            int duty = dutyOf(slot);
            if (coins < duty) {
                return UNSUPPORTED;
            }
            coins -= duty;
            coinsTaken += duty;
            letLeave(slot);
            return duty;
        }

        private void letLeave(int slot) {
            queue.remove(lots.ids[slot]);
            lots.remove(slot);
        }

        int letPass(int days) {
            if (days < 1 || days > MOST_DAYS) {
                return ILLEGAL_ARGUMENT;
            }
            int before = destroyed;
            for (int passed = 0; passed < days; passed++) {
                letOneDayPass();
            }
            return destroyed - before;
        }

        private void letOneDayPass() {
            int dampAtDawn = lots.baysOfDamp();
            lots.spreadFrom(dampAtDawn);
            // From the last slot on, since a lot that leaves moves those behind it.
            for (int slot = lots.count - 1; slot >= 0; slot--) {
                if (hasBay(dampAtDawn, lots.bays[slot])) {
                    lots.quantities[slot]--;
                    if (lots.quantities[slot] <= 0) {
                        letLeave(slot);
                        destroyed++;
                    }
                }
            }
            daysPassed++;
        }

        int dutyOf(int slot) {
            return lots.underSeal[slot] ? 0 : tariff.dutyByParts(lots.valueOf(slot));
        }

        int dutyInOrderOfIds() {
            int sum = 0;
            for (int slot = 0; slot < lots.count; slot++) {
                sum += dutyOf(slot);
            }
            return sum;
        }

        int dutyBayByBay() {
            int sum = 0;
            for (int bay = 0; bay < BAYS; bay++) {
                int slot = lots.slotAt(bay);
                if (slot >= 0) {
                    sum += dutyOf(slot);
                }
            }
            return sum;
        }

        boolean dutiesAgree() {
            for (int slot = 0; slot < lots.count; slot++) {
                int value = lots.valueOf(slot);
                if (tariff.dutyByParts(value) != tariff.dutyByCoins(value)) {
                    return false;
                }
            }
            return true;
        }

        /** Most lots are released if the cheapest go first; the row has MOST_LOTS elements. */
        int countReleases(int[] duties) {
            sortDutiesInto(duties);
            int left = coins;
            for (int released = 0; released < lots.count && released < duties.length; released++) {
                left -= duties[released];
                if (left < 0) {
                    return released;
                }
            }
            return lots.count;
        }

        private void sortDutiesInto(int[] duties) {
            for (int slot = 0; slot < lots.count && slot < duties.length; slot++) {
                int duty = dutyOf(slot);
                int place = slot;
                while (place > 0 && duties[place - 1] > duty) {
                    duties[place] = duties[place - 1];
                    place--;
                }
                duties[place] = duty;
            }
        }

        /** Does what the command says that was read last. */
        int perform(CommandText command) {
            int first = command.numbers[0];
            int second = command.numbers[1];
            int third = command.numbers[2];
            switch (command.verb) {
                case CommandText.LOT:
                    return takeIn(command.kind, first, second, third);
                case CommandText.SEAL:
                    return sealLot(first);
                case CommandText.OPEN:
                    return openLot(first);
                case CommandText.WET:
                    return wetLot(first);
                case CommandText.QUEUE:
                    return queueLot(first);
                case CommandText.RELEASE:
                    return releaseLot(first);
                case CommandText.MOVE:
                    return moveLot(first, second);
                case CommandText.AUDIT:
                    return auditFirst();
                case CommandText.STEP:
                    return tariff.insert(first, second);
                case CommandText.BOND:
                    return takeCoins(first);
                default:
                    letOneDayPass();
                    return 0;
            }
        }
    }

    /**
     * The states ahead of the latest changes, in a ring with one slot more than can be undone: the
     * slot at the cursor is free for the change that is tried next, so that a refused one loses none.
     */
    private static final class History {
        private static final int LAST = MOST_UNDONE;

        private final Shed[] states = new Shed[LAST + 1];
        private int cursor = 0;
        private int count = 0;

        /** Keeps the state ahead of a change that may be refused. */
        void prepare(Shed shed) {
            Shed state = states[cursor];
            if (state == null) {
                state = new Shed();
                states[cursor] = state;
            }
            state.copyFrom(shed);
        }

        /** The prepared change is done: it can be undone from now on. */
        void keepPrepared() {
            cursor = cursor >= LAST ? 0 : cursor + 1;
            if (count < MOST_UNDONE) {
                count++;
            }
        }

        /** Gives the shed back the state that was prepared last. */
        void takeBack(Shed shed) {
            Shed state = states[cursor];
            if (state != null) {
                shed.copyFrom(state);
            }
        }

        void undoLatest(Shed shed) {
            cursor = cursor <= 0 ? LAST : cursor - 1;
            count--;
            takeBack(shed);
        }

        void forget() {
            count = 0;
        }
    }

    /** The input buffer, and the command in it that was read last. */
    private static final class CommandText {
        private static final int LOT = 0;
        private static final int SEAL = 1;
        private static final int OPEN = 2;
        private static final int WET = 3;
        private static final int QUEUE = 4;
        private static final int RELEASE = 5;
        private static final int MOVE = 6;
        private static final int AUDIT = 7;
        private static final int STEP = 8;
        private static final int BOND = 9;
        private static final int DAY = 10;
        private static final int VERBS = 11;

        private static final char KIND_PART = '%';
        private static final char NUMBER_PART = '#';
        private static final int MOST_DIGITS = 4;
        private static final int MOST_NUMBERS = 3;

        private final char[] characters = new char[MOST_CHARACTERS];
        private final int[] numbers = new int[MOST_NUMBERS];
        private int length = 0;
        private int cursor = 0;
        private int verb = DAY;
        private char kind = 'a';
        private int numbersRead = 0;

        /** In a form, % stands for a kind and # for a number. */
        private static String formOf(int verb) {
            switch (verb) {
                case LOT:
                    return "lot %#*#@#";
                case SEAL:
                    return "seal #";
                case OPEN:
                    return "open #";
                case WET:
                    return "wet #";
                case QUEUE:
                    return "queue #";
                case RELEASE:
                    return "release #";
                case MOVE:
                    return "move #@#";
                case AUDIT:
                    return "audit";
                case STEP:
                    return "step #=#";
                case BOND:
                    return "bond #";
                default:
                    return "day";
            }
        }

        boolean append(char character) {
            if (length >= MOST_CHARACTERS) {
                return false;
            }
            characters[length] = character;
            length++;
            return true;
        }

        void clear() {
            length = 0;
        }

        void rewind() {
            cursor = 0;
        }

        void skipSemicolon() {
            cursor++;
        }

        /** Answers NONE, with the cursor at the error position, if the text is malformed. */
        int countCommands() {
            rewind();
            for (int commands = 1; commands <= MOST_CHARACTERS; commands++) {
                if (!readCommand()) {
                    return NONE;
                }
                if (cursor >= length) {
                    return commands;
                }
                if (characters[cursor] != ';') {
                    return NONE;
                }
                skipSemicolon();
            }
            return NONE;
        }

        /** Reads the command at the cursor, or sets the cursor where no command can go on. */
        boolean readCommand() {
            int start = cursor;
            int furthest = start;
            for (int tried = 0; tried < VERBS; tried++) {
                cursor = start;
                if (readForm(formOf(tried))) {
                    verb = tried;
                    return true;
                }
                furthest = Math.max(furthest, cursor);
            }
            cursor = furthest;
            return false;
        }

        private boolean readForm(String form) {
            numbersRead = 0;
            for (int index = 0; index < form.length(); index++) {
                char part = form.charAt(index);
                boolean fits = part == NUMBER_PART ? readNumber() : readCharacter(part);
                if (!fits) {
                    return false;
                }
            }
            return true;
        }

        private boolean readCharacter(char part) {
            if (cursor >= length) {
                return false;
            }
            char character = characters[cursor];
            boolean fits = part == KIND_PART ? isKind(character) : character == part;
            if (!fits) {
                return false;
            }
            if (part == KIND_PART) {
                kind = character;
            }
            cursor++;
            return true;
        }

        private boolean readNumber() {
            int number = 0;
            int digits = 0;
            while (digits < MOST_DIGITS && cursor < length && isDigit(characters[cursor])) {
                number = number * 10 + (characters[cursor] - '0');
                digits++;
                cursor++;
            }
            if (digits == 0 || numbersRead >= MOST_NUMBERS) {
                return false;
            }
            numbers[numbersRead] = number;
            numbersRead++;
            return true;
        }

        private static boolean isDigit(char character) {
            return character >= '0' && character <= '9';
        }
    }
}
