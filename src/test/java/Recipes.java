/** Sheds that are made alike every time, so that two of them can be compared. */
final class Recipes {
    private Recipes() {
    }

    /**
     * A shed with something of everything. The lots 0 (sealed), 1 (open, waits), 2 (damp), 4 (sealed,
     * waits) and 6 (open) are in the bays 2, 5, 8, 0 and 12; lot 3 was destroyed, lot 5 released.
     * The bond is 35, the duties of 1, 2 and 6 are 65, 8 and 10. Eight changes can be undone, the
     * shed with the lots 0 to 5 alone, all sealed, is saved, the error position 2 and the failed
     * command 1 are kept, and the output is "b30*7@5?".
     */
    static CustomsShed idle() {
        return idle("dax", 1);
    }

    /** The idle shed after another malformed text, and with another failed command from 0 to 13. */
    static CustomsShed idle(String malformed, int failedCommand) {
        CustomsShed shed = new CustomsShed();
        keep(shed, malformed);
        keep(shed, "day;".repeat(failedCommand) + "audit");
        shed.addStep(0, 10);
        shed.addStep(100, 50);
        shed.addLot('a', 5, 20, 3);
        shed.addLot('b', 30, 7, 5);
        shed.addLot('c', 9, 9, 8);
        shed.addLot('d', 1, 99, 23);
        shed.addLot('e', 99, 99, 0);
        shed.addLot('a', 2, 50, 10);
        shed.save();
        shed.addLot('a', 10, 10, 12);
        shed.open(3);
        shed.wet(3);
        shed.open(5);
        shed.deposit(40);
        shed.release(5);
        shed.passDays(1);
        shed.open(1);
        shed.open(2);
        shed.wet(2);
        shed.enqueue(4);
        shed.enqueue(1);
        shed.open(6);
        shed.move(0, 2);
        shed.deposit(5);
        shed.writeLot(1);
        return shed;
    }

    /** The idle shed with a text in its input buffer. */
    static CustomsShed busy() {
        CustomsShed shed = idle();
        Sheds.feed(shed, "bond 7");
        return shed;
    }

    /** The idle shed with two changes that can be undone: a lot in bay 20 and a deposit of 1. */
    static CustomsShed calm() {
        CustomsShed shed = idle();
        shed.save();
        shed.restore();
        shed.addLot('d', 3, 3, 20);
        shed.deposit(1);
        return shed;
    }

    /** 16 sealed lots in the bays from the given one on. */
    static CustomsShed full(int firstBay) {
        CustomsShed shed = new CustomsShed();
        for (int lot = 0; lot < 16; lot++) {
            shed.addLot('a', 1, 1, firstBay + lot);
        }
        return shed;
    }

    /** 16 lots that all wait for an audit, the last one first. */
    static CustomsShed waiting() {
        CustomsShed shed = full(0);
        for (int lot = 15; lot >= 0; lot--) {
            shed.enqueue(lot);
        }
        return shed;
    }

    /** The thresholds are 0, 10, .. 50, the rates 1, 2, .. 6. */
    static CustomsShed sixSteps() {
        CustomsShed shed = new CustomsShed();
        for (int step = 0; step < 6; step++) {
            shed.addStep(10 * step, step + 1);
        }
        return shed;
    }

    static CustomsShed withBond(int coins) {
        CustomsShed shed = new CustomsShed();
        for (int left = coins; left > 0; left -= 999) {
            shed.deposit(Math.min(left, 999));
        }
        return shed;
    }

    /** So many open lots of kind 'a' and price 1 side by side from the bay on; the first is damp. */
    static CustomsShed row(int lots, int quantity, int firstBay) {
        CustomsShed shed = new CustomsShed();
        for (int lot = 0; lot < lots; lot++) {
            Sheds.addOpen(shed, quantity, firstBay + lot, lot == 0);
        }
        return shed;
    }

    /** Executes a text that is refused, so that its place is kept. */
    static void keep(CustomsShed shed, String text) {
        Sheds.feed(shed, text);
        try {
            shed.execute();
        } catch (IllegalArgumentException | UnsupportedOperationException refused) {
            return;
        }
        throw new AssertionError(text + " is not refused");
    }
}
