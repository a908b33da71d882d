/** Promises 37 to 45 and the terms of audits and the bond: each sentence that names an edge. */
public final class AuditBondEdgesTest {
    private static final Check check = new Check("AuditBondEdgesTest");
    private static final Edges fresh = new Edges(check, CustomsShed::new);
    private static final Edges busy = new Edges(check, Recipes::busy);
    private static final Edges waiting = new Edges(check, Recipes::waiting);

    public static void main(String[] args) {
        promise37Enqueue();
        promise37EachLotOnce();
        promise38AuditOfNothing();
        promise38OpensSealedLots();
        promise38KeepsTheOrder();
        termsLeavesTheQueue();
        promises39And40Positions();
        promise41Deposit();
        promise41GreatestBond();
        promise42NoSuchLot();
        promise42TooSmallABond();
        promise42WithoutDuty();
        promises43And44Coins();
        promise45MostReleases();
        promise45AtEachBond();
        promise45SealedLots();
        promise45AfterLotsLeft();
        check.finish();
    }

    private static void promise37Enqueue() {
        Edges.refuseLots(check, "enqueue", (shed, lot) -> shed.enqueue(lot));
        busy.refuses("enqueue of the first of the queue", Edges.STATE, shed -> shed.enqueue(4));
        busy.refuses("enqueue of the last of the queue", Edges.STATE, shed -> shed.enqueue(1));
        for (int lot : new int[] {0, 2, 6}) {
            busy.answers("enqueue of " + lot, 3, shed -> shed.enqueue(lot));
            busy.answers("its position", lot, shed -> shed.enqueue(lot) - 3 + shed.queued(2));
        }
        for (int lot = 0; lot < 16; lot++) {
            int again = lot;
            waiting.refuses("enqueue of " + lot + " of 16", Edges.STATE, shed -> shed.enqueue(again));
        }
        fresh.answers("enqueue of the only lot", 1, shed -> shed.addLot('a', 1, 1, 0) + shed.enqueue(0));
    }

    private static void promise37EachLotOnce() {
        busy.answers("enqueue after its audit", 2, shed -> shed.audit() - 4 + shed.enqueue(4));
        busy.answers("enqueue after its undo", 2, shed -> {
            shed.undo();
            shed.undo();
            shed.undo();
            shed.undo();
            return shed.enqueue(1);
        });
        CustomsShed shed = Recipes.full(0);
        for (int lot = 0; lot < 16; lot++) {
            check.same("enqueue of " + lot, shed.enqueue((lot * 5) % 16), lot + 1);
        }
        for (int lot = 0; lot < 16; lot++) {
            check.same("position " + lot, shed.queued(lot), (lot * 5) % 16);
        }
        shed.release(5);
        check.same("the next lot", shed.addLot('a', 1, 1, 20), 16);
        check.same("the next lot waits last", shed.enqueue(16), 16);
        check.same("the last position", shed.queued(15), 16);
    }

    private static void promise38AuditOfNothing() {
        fresh.refuses("audit in a new shed", Edges.NO_ELEMENT, shed -> shed.audit());
        new Edges(check, () -> Recipes.full(0)).refuses("audit of none that waits", Edges.NO_ELEMENT, shed -> shed.audit());
        new Edges(check, AuditBondEdgesTest::audited).refuses("audit after two", Edges.NO_ELEMENT, shed -> shed.audit());
        new Edges(check, AuditBondEdgesTest::left).refuses("audit after all left", Edges.NO_ELEMENT, shed -> shed.audit());
        busy.answers("the last audit", 1, shed -> shed.audit() - 4 + shed.audit());
    }

    private static CustomsShed audited() {
        CustomsShed shed = Recipes.busy();
        shed.audit();
        shed.audit();
        return shed;
    }

    private static CustomsShed left() {
        CustomsShed shed = Recipes.busy();
        shed.release(4);
        shed.deposit(30);
        shed.release(1);
        return shed;
    }

    private static void promise38OpensSealedLots() {
        CustomsShed shed = Recipes.busy();
        shed.enqueue(2);
        check.same("audit of a sealed lot", shed.audit(), 4);
        check.same("it is open and dry, in its bay", Sheds.lot(shed, 4), "e99*99@0");
        check.same("audit of an open lot", shed.audit(), 1);
        check.same("it is open, in its bay", Sheds.lot(shed, 1), "b30*7@5");
        check.same("audit of a damp lot", shed.audit(), 2);
        check.same("it is damp, in its bay", Sheds.lot(shed, 2), "c9*9@8~");
        check.same("none waits", shed.queueLength(), 0);
        check.same("the lots stay", shed.lotCount(), 5);
        check.same("nothing is paid", shed.bond(), 35);
        check.same("each is a change", shed.undoCount(), 8);
        check.same("undo of an audit", shed.undo(), 7);
        check.same("it waits again", Sheds.queue(shed), "2 ");
    }

    private static void promise38KeepsTheOrder() {
        CustomsShed shed = Recipes.waiting();
        for (int lot = 15; lot >= 0; lot--) {
            check.same("first of the queue", shed.queued(0), lot);
            check.same("audit", shed.audit(), lot);
            check.same("length after it", shed.queueLength(), lot);
            check.holds("it is open", !shed.isSealed(lot));
            if (lot > 0) {
                check.holds("the next is sealed", shed.isSealed(lot - 1));
            }
        }
        check.refused("audit of none", Edges.NO_ELEMENT, () -> shed.audit());
        check.same("all are open", Sheds.bays(shed), "aaaaaaaaaaaaaaaa........");
    }

    private static void termsLeavesTheQueue() {
        for (int lot = 0; lot < 16; lot++) {
            CustomsShed shed = Recipes.waiting();
            StringBuilder due = new StringBuilder();
            for (int other = 15; other >= 0; other--) {
                due.append(other == lot ? "" : other + " ");
            }
            shed.release(lot);
            check.same("queue without " + lot, Sheds.queue(shed), due.toString());
            shed.undo();
            check.same("queue with " + lot, shed.queued(15 - lot), lot);
            shed.open(lot);
            shed.wet(lot);
            shed.passDays(1);
            check.same("queue after " + lot + " is destroyed", Sheds.queue(shed), due.toString());
        }
        CustomsShed shed = Recipes.busy();
        shed.release(2);
        check.same("a lot that does not wait", Sheds.queue(shed), "4 1 ");
        shed.move(4, 1);
        shed.seal(1);
        check.same("move and seal", Sheds.queue(shed), "4 1 ");
    }

    private static void promises39And40Positions() {
        fresh.refusesIndexesBeyond("queued of none", 0, (shed, position) -> shed.queued(position));
        busy.refusesIndexesBeyond("queued", 2, (shed, position) -> shed.queued(position));
        waiting.refusesIndexesBeyond("queued of 16", 16, (shed, position) -> shed.queued(position));
        new Edges(check, AuditBondEdgesTest::audited).refusesIndexesBeyond("queued after two", 0,
                (shed, position) -> shed.queued(position));
        fresh.answers("no queue", 0, CustomsShed::queueLength);
        busy.answers("a queue of two", 2, CustomsShed::queueLength);
        waiting.answers("a queue of 16", 16, CustomsShed::queueLength);
        busy.answers("the first", 4, shed -> shed.queued(0));
        busy.answers("the last", 1, shed -> shed.queued(1));
        waiting.answers("the last of 16", 0, shed -> shed.queued(15));
    }

    private static void promise41Deposit() {
        busy.refusesNumbers("deposit", 1, 999, (shed, coins) -> shed.deposit(coins));
        fresh.refusesNumbers("deposit in a new shed", 1, 999, (shed, coins) -> shed.deposit(coins));
        for (int coins : new int[] {1, 2, 998, 999}) {
            fresh.answers("deposit of " + coins, coins, shed -> shed.deposit(coins));
            busy.answers("deposit of " + coins + " more", 35 + coins, shed -> shed.deposit(coins));
            busy.answers("the bond after it", 35, shed -> shed.bond());
        }
    }

    private static void promise41GreatestBond() {
        for (int coins : new int[] {1, 2, 9, 500, 998, 999}) {
            Edges almost = new Edges(check, () -> Recipes.withBond(9999 - coins));
            almost.answers("deposit up to 9999", 9999, shed -> shed.deposit(coins));
            if (coins < 999) {
                almost.refuses("deposit up to 10000", Edges.STATE, shed -> shed.deposit(coins + 1));
            }
            almost.refuses("deposit of 1000", Edges.ARGUMENT, shed -> shed.deposit(1000));
        }
        Edges greatest = new Edges(check, () -> Recipes.withBond(9999));
        for (int coins : new int[] {1, 2, 999}) {
            greatest.refuses("deposit of " + coins + " to 9999", Edges.STATE, shed -> shed.deposit(coins));
        }
        greatest.refusesNumbers("deposit to 9999", 1, 999, (shed, coins) -> shed.deposit(coins));
        greatest.answers("the greatest bond", 9999, CustomsShed::bond);
    }

    private static void promise42NoSuchLot() {
        Edges.refuseLots(check, "release", (shed, lot) -> shed.release(lot));
        fresh.refuses("release with a bond of 0", Edges.NO_ELEMENT, shed -> shed.release(0));
        busy.answers("release of a sealed lot", 0, shed -> shed.release(0));
        busy.answers("release of a sealed lot that waits", 0, shed -> shed.release(4));
        busy.answers("release of a damp lot", 8, shed -> shed.release(2));
        busy.answers("release of an open lot", 10, shed -> shed.release(6));
        busy.answers("lots after it", 4, shed -> shed.release(6) - 10 + shed.lotCount());
        busy.answers("destroyed after it", 1, shed -> shed.release(6) - 10 + shed.destroyedCount());
        busy.answers("its bay is empty", 12, shed -> shed.release(6) - 10 + shed.nextEmptyBay(12));
        new Edges(check, AuditBondEdgesTest::left).refuses("release of it again", Edges.NO_ELEMENT, shed -> shed.release(4));
    }

    private static CustomsShed withDutyAndBond(int duty, int bond) {
        CustomsShed shed = Recipes.withBond(bond);
        shed.addStep(0, 100);
        Sheds.addOpen(shed, duty, 7, false);
        shed.enqueue(0);
        return shed;
    }

    private static CustomsShed damp(CustomsShed shed) {
        shed.wet(0);
        return shed;
    }

    private static void promise42TooSmallABond() {
        busy.refuses("release with a bond of 35 at a duty of 65", Edges.UNSUPPORTED, shed -> shed.release(1));
        for (int duty : new int[] {1, 2, 50, 99}) {
            new Edges(check, () -> withDutyAndBond(duty, duty - 1)).refuses("release at one coin too few",
                    Edges.UNSUPPORTED, shed -> shed.release(0));
            Edges just = new Edges(check, () -> withDutyAndBond(duty, duty));
            just.answers("release at just the bond", duty, shed -> shed.release(0));
            just.answers("the bond after it", 0, shed -> shed.release(0) - duty + shed.bond());
            just.answers("collected after it", duty, shed -> shed.release(0) - duty + shed.collected());
            new Edges(check, () -> damp(withDutyAndBond(duty, duty - 1))).refuses("release of a damp lot at one too few",
                    Edges.UNSUPPORTED, shed -> shed.release(0));
            new Edges(check, () -> damp(withDutyAndBond(duty, duty))).answers("release of a damp lot", duty,
                    shed -> shed.release(0));
            Edges more = new Edges(check, () -> withDutyAndBond(duty, duty + 1));
            more.answers("release at one coin more", duty, shed -> shed.release(0));
            more.answers("the coin that stays", 1, shed -> shed.release(0) - duty + shed.bond());
        }
    }

    private static void promise42WithoutDuty() {
        Edges cheap = new Edges(check, () -> withDutyAndBond(1, 0));
        cheap.refuses("release at a bond of 0", Edges.UNSUPPORTED, shed -> shed.release(0));
        cheap.answers("release of a sealed lot at a bond of 0", 0, shed -> shed.seal(0) - 1 + shed.release(0));
        cheap.answers("release without steps at a bond of 0", 0, shed -> shed.removeStep(0) - 100 + shed.release(0));
        cheap.answers("release at a step above its value", 0, shed -> {
            shed.removeStep(0);
            shed.addStep(1, 100);
            return shed.release(0);
        });
        cheap.answers("release at a duty rounded to 0", 0, shed -> {
            shed.removeStep(0);
            shed.addStep(0, 99);
            return shed.release(0);
        });
    }

    private static void promises43And44Coins() {
        fresh.answers("bond of a new shed", 0, CustomsShed::bond);
        fresh.answers("collected in a new shed", 0, CustomsShed::collected);
        busy.answers("bond", 35, CustomsShed::bond);
        busy.answers("collected", 10, CustomsShed::collected);
        busy.answers("collected after a deposit", 10, shed -> shed.deposit(9) - 44 + shed.collected());
        busy.answers("collected after a sealed lot", 10, shed -> shed.release(4) + shed.collected());
        busy.answers("collected after two", 28, shed -> shed.release(2) + shed.release(6) - 18 + shed.collected());
        busy.answers("bond after two", 17, shed -> shed.release(2) + shed.release(6) - 18 + shed.bond());
        busy.answers("collected after a destroyed lot", 10, shed -> shed.passDays(9) - 1 + shed.collected());
        CustomsShed shed = new CustomsShed();
        shed.addStep(0, 100);
        for (int time = 1; time <= 5; time++) {
            while (shed.bond() < 9801) {
                shed.deposit(Math.min(999, 9999 - shed.bond()));
            }
            int lot = shed.addLot('e', 99, 99, 0);
            shed.open(lot);
            check.same("release of the greatest duty", shed.release(lot), 9801);
            check.same("collected in all", shed.collected(), 9801 * time);
        }
    }

    private static void promise45MostReleases() {
        fresh.answers("most releases of none", 0, CustomsShed::mostReleases);
        new Edges(check, () -> Recipes.withBond(9999)).answers("most releases of none at 9999", 0, CustomsShed::mostReleases);
        new Edges(check, () -> Recipes.full(0)).answers("most releases of 16 sealed ones", 16, CustomsShed::mostReleases);
        busy.answers("most releases", 4, CustomsShed::mostReleases);
        for (int bond = 0; bond <= 2; bond++) {
            int coins = bond;
            new Edges(check, () -> withDutyAndBond(1, coins)).answers("most releases at " + bond,
                    Math.min(1, bond), CustomsShed::mostReleases);
        }
    }

    /** The duties are 30, 1, 20, 1, 10 and 0: the cheapest first need 0, 1, 2, 12, 32 and 62 coins. */
    private static void promise45AtEachBond() {
        CustomsShed shed = new CustomsShed();
        shed.addStep(0, 100);
        shed.addStep(30, 0);
        int[] quantities = {31, 1, 20, 1, 10};
        for (int lot = 0; lot < 5; lot++) {
            Sheds.addOpen(shed, quantities[lot], 2 * lot, false);
        }
        shed.addLot('b', 99, 99, 23);
        int[] needed = {0, 1, 2, 12, 32, 62};
        for (int bond = 0; bond <= 64; bond++) {
            int due = 0;
            while (due < 6 && needed[due] <= bond) {
                due++;
            }
            check.same("most releases at " + bond, shed.mostReleases(), due);
            shed.deposit(1);
        }
        check.same("nothing was released", shed.lotCount(), 6);
    }

    private static void promise45SealedLots() {
        CustomsShed shed = Recipes.full(0);
        shed.addStep(0, 100);
        for (int lot = 0; lot < 16; lot++) {
            check.same("most releases without coins", shed.mostReleases(), 16 - lot);
            shed.open(lot);
        }
        check.same("most releases of 16 open ones", shed.mostReleases(), 0);
        for (int coins = 1; coins <= 17; coins++) {
            shed.deposit(1);
            check.same("most releases with " + coins, shed.mostReleases(), Math.min(coins, 16));
        }
    }

    /** Lots that were counted before and have left count no more. */
    private static void promise45AfterLotsLeft() {
        CustomsShed shed = Recipes.full(0);
        shed.addStep(0, 100);
        shed.open(0);
        check.same("most releases with one open lot", shed.mostReleases(), 15);
        for (int lot = 1; lot <= 12; lot++) {
            shed.release(lot);
        }
        shed.seal(0);
        check.same("most releases of the four that stay", shed.mostReleases(), 4);
        shed.deposit(999);
        for (int lot = 13; lot <= 15; lot++) {
            shed.release(lot);
        }
        check.same("most releases of the last", shed.mostReleases(), 1);
        shed.release(0);
        check.same("most releases of none left", shed.mostReleases(), 0);
        shed.undo();
        check.same("most releases after undo", shed.mostReleases(), 1);
    }
}
