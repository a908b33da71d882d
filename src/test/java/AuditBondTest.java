import java.util.NoSuchElementException;

/** Promises 37 to 45: audits and the bond. */
public final class AuditBondTest {
    private static final Check check = new Check("AuditBondTest");

    public static void main(String[] args) {
        promise37Enqueue();
        promise38Audit();
        promises39And40Queue();
        promise41Deposit();
        promise42Release();
        promises43And44Coins();
        promise45MostReleases();
        check.finish();
    }

    private static void promise37Enqueue() {
        CustomsShed shed = new CustomsShed();
        Sheds.fill(shed);
        shed.open(4);
        check.same("enqueue a sealed lot", shed.enqueue(9), 1);
        check.same("enqueue an open lot", shed.enqueue(4), 2);
        check.refused("enqueue it again", IllegalStateException.class, () -> shed.enqueue(9));
        check.refused("enqueue lot 16", NoSuchElementException.class, () -> shed.enqueue(16));
        check.refused("enqueue lot -1", NoSuchElementException.class, () -> shed.enqueue(-1));
        check.same("queue afterwards", Sheds.queue(shed), "9 4 ");
        shed.audit();
        check.same("enqueue an audited lot", shed.enqueue(9), 2);
        for (int lot = 0; lot < 16; lot++) {
            if (lot != 9 && lot != 4) {
                shed.enqueue(lot);
            }
        }
        check.same("all lots wait", shed.queueLength(), 16);
        check.same("first of a full queue", shed.audit(), 4);
        check.same("second of a full queue", shed.audit(), 9);
        for (int lot = 0; lot < 16; lot++) {
            if (lot != 9 && lot != 4) {
                check.same("next in the queue", shed.audit(), lot);
            }
        }
        check.same("none waits", shed.queueLength(), 0);
    }

    private static void promise38Audit() {
        CustomsShed shed = new CustomsShed();
        shed.addLot('a', 3, 1, 7);
        Sheds.addOpen(shed, 9, 9, true);
        check.refused("audit of nothing", NoSuchElementException.class, () -> shed.audit());
        shed.enqueue(1);
        shed.enqueue(0);
        check.same("audit of an open lot", shed.audit(), 1);
        check.same("it stays as it was", Sheds.lot(shed, 1), "a9*1@9~");
        check.same("audit of a sealed lot", shed.audit(), 0);
        check.same("it is open, in its bay", Sheds.lot(shed, 0), "a3*1@7");
        check.refused("audit after all", NoSuchElementException.class, () -> shed.audit());
    }

    private static void promises39And40Queue() {
        CustomsShed shed = new CustomsShed();
        Sheds.fill(shed);
        check.same("length at first", shed.queueLength(), 0);
        check.refused("position 0 of nothing", IndexOutOfBoundsException.class, () -> shed.queued(0));
        shed.enqueue(5);
        shed.enqueue(2);
        shed.enqueue(8);
        shed.enqueue(0);
        shed.release(2);
        check.same("length after a release", shed.queueLength(), 3);
        check.same("position 0", shed.queued(0), 5);
        check.same("position 1", shed.queued(1), 8);
        check.same("position 2", shed.queued(2), 0);
        check.refused("position 3", IndexOutOfBoundsException.class, () -> shed.queued(3));
        check.refused("position -1", IndexOutOfBoundsException.class, () -> shed.queued(-1));
    }

    private static void promise41Deposit() {
        CustomsShed shed = new CustomsShed();
        check.same("deposit 1", shed.deposit(1), 1);
        check.refused("deposit 0", IllegalArgumentException.class, () -> shed.deposit(0));
        check.refused("deposit -5", IllegalArgumentException.class, () -> shed.deposit(-5));
        check.refused("deposit 1000", IllegalArgumentException.class, () -> shed.deposit(1000));
        for (int time = 1; time <= 10; time++) {
            check.same("deposit 999", shed.deposit(999), 1 + 999 * time);
        }
        check.refused("deposit 9 to 9991", IllegalStateException.class, () -> shed.deposit(9));
        check.refused("deposit a wrong number to 9991", IllegalArgumentException.class, () -> shed.deposit(1000));
        check.refused("deposit the greatest number", IllegalArgumentException.class, () -> shed.deposit(Integer.MAX_VALUE));
        check.same("deposit 8 to 9991", shed.deposit(8), 9999);
        check.refused("deposit 1 to 9999", IllegalStateException.class, () -> shed.deposit(1));
        check.same("bond afterwards", shed.bond(), 9999);
    }

    private static void promise42Release() {
        CustomsShed shed = new CustomsShed();
        shed.addStep(0, 10);
        shed.addLot('a', 10, 10, 0);
        shed.addLot('b', 10, 20, 1);
        shed.addLot('c', 99, 99, 2);
        shed.open(0);
        shed.open(1);
        shed.deposit(29);
        check.same("release at a duty of 10", shed.release(0), 10);
        check.refused("release at too little bond", UnsupportedOperationException.class, () -> shed.release(1));
        check.same("bond after a refused release", shed.bond(), 19);
        check.same("lots after a refused release", shed.lotCount(), 2);
        check.refused("release it again", NoSuchElementException.class, () -> shed.release(0));
        check.refused("release lot -1", NoSuchElementException.class, () -> shed.release(-1));
        shed.deposit(1);
        check.same("release at just the bond", shed.release(1), 20);
        check.same("release a sealed lot", shed.release(2), 0);
        check.same("bays are empty", Sheds.bays(shed), "........................");
    }

    private static void promises43And44Coins() {
        CustomsShed shed = new CustomsShed();
        shed.addStep(0, 100);
        shed.addLot('a', 10, 10, 0);
        shed.addLot('a', 5, 10, 1);
        shed.addLot('a', 5, 10, 2);
        shed.open(0);
        shed.open(1);
        shed.deposit(200);
        check.same("bond", shed.bond(), 200);
        check.same("collected at first", shed.collected(), 0);
        shed.release(1);
        check.same("collected 50", shed.collected(), 50);
        shed.release(2);
        shed.release(0);
        check.same("collected 150", shed.collected(), 150);
        check.same("bond at the end", shed.bond(), 50);
        shed.undo();
        check.same("collected after undo", shed.collected(), 50);
        check.same("bond after undo", shed.bond(), 150);
    }

    private static void promise45MostReleases() {
        CustomsShed shed = new CustomsShed();
        check.same("most releases of nothing", shed.mostReleases(), 0);
        shed.addStep(0, 100);
        int[] quantities = {40, 10, 30, 20, 99};
        for (int lot = 0; lot < 5; lot++) {
            Sheds.addOpen(shed, quantities[lot], lot * 2, false);
        }
        check.same("most releases without a bond", shed.mostReleases(), 0);
        shed.deposit(9);
        check.same("most releases with 9", shed.mostReleases(), 0);
        shed.deposit(1);
        check.same("most releases with 10", shed.mostReleases(), 1);
        shed.deposit(49);
        check.same("most releases with 59", shed.mostReleases(), 2);
        shed.deposit(1);
        check.same("most releases with 60", shed.mostReleases(), 3);
        shed.addLot('b', 99, 99, 23);
        check.same("most releases with a sealed lot", shed.mostReleases(), 4);
        shed.deposit(40);
        check.same("most releases with 100", shed.mostReleases(), 5);
        shed.deposit(99);
        check.same("most releases of all", shed.mostReleases(), 6);
        check.same("nothing is released", shed.lotCount(), 6);
    }
}
