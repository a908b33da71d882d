import java.util.NoSuchElementException;

/** Promises 1 to 19: a new object, and lots. */
public final class LotsTest {
    private static final Check check = new Check("LotsTest");

    public static void main(String[] args) {
        promise1NewShed();
        promise2AddLot();
        promise2AddLotOrderOfExceptions();
        promise3Seal();
        promise4Open();
        promise5Wet();
        promise6Move();
        promise7LotCount();
        promise8Lot();
        promises9To15OneLot();
        promise16LotAt();
        promise17NextEmptyBay();
        promise18QuantityOfKind();
        promise19LotByValue();
        check.finish();
    }

    private static void promise1NewShed() {
        CustomsShed shed = new CustomsShed();
        check.same("lots of a new shed", shed.lotCount(), 0);
        check.same("steps of a new shed", shed.stepCount(), 0);
        check.same("day of a new shed", shed.day(), 0);
        check.same("destroyed in a new shed", shed.destroyedCount(), 0);
        check.same("queue of a new shed", shed.queueLength(), 0);
        check.same("bond of a new shed", shed.bond(), 0);
        check.same("collected in a new shed", shed.collected(), 0);
        check.same("changes of a new shed", shed.undoCount(), 0);
        check.same("duty in a new shed", shed.totalDuty(), 0);
        check.same("bays of a new shed", Sheds.bays(shed), "........................");
        check.same("first id", shed.addLot('a', 1, 1, 0), 0);
    }

    private static void promise2AddLot() {
        CustomsShed shed = new CustomsShed();
        check.same("first lot", shed.addLot('a', 1, 1, 0), 0);
        check.same("second lot", shed.addLot('e', 99, 99, 23), 1);
        check.same("a lot is sealed and dry at first", Sheds.lot(shed, 1), "e99*99@23#");
        shed.release(1);
        check.same("an id is not given again", shed.addLot('b', 1, 1, 23), 2);
        int changes = shed.undoCount();
        check.refused("bay -1", IndexOutOfBoundsException.class, () -> shed.addLot('a', 1, 1, -1));
        check.refused("bay 24", IndexOutOfBoundsException.class, () -> shed.addLot('a', 1, 1, 24));
        check.refused("the sign before a", IllegalArgumentException.class, () -> shed.addLot('`', 1, 1, 5));
        check.refused("kind f", IllegalArgumentException.class, () -> shed.addLot('f', 1, 1, 5));
        check.refused("kind A", IllegalArgumentException.class, () -> shed.addLot('A', 1, 1, 5));
        check.refused("quantity 0", IllegalArgumentException.class, () -> shed.addLot('a', 0, 1, 5));
        check.refused("quantity 100", IllegalArgumentException.class, () -> shed.addLot('a', 100, 1, 5));
        check.refused("price 0", IllegalArgumentException.class, () -> shed.addLot('a', 1, 0, 5));
        check.refused("price 100", IllegalArgumentException.class, () -> shed.addLot('a', 1, 100, 5));
        check.refused("a full bay", UnsupportedOperationException.class, () -> shed.addLot('a', 1, 1, 0));
        check.same("lots after refused calls", shed.lotCount(), 2);
        check.same("changes after refused calls", shed.undoCount(), changes);
        check.same("id after refused calls", shed.addLot('a', 1, 1, 5), 3);
    }

    private static void promise2AddLotOrderOfExceptions() {
        CustomsShed shed = new CustomsShed();
        Sheds.fill(shed);
        check.refused("a 17th lot", IllegalStateException.class, () -> shed.addLot('a', 1, 1, 16));
        check.refused("a 17th lot in a full bay", IllegalStateException.class, () -> shed.addLot('a', 1, 1, 0));
        check.refused("a 17th lot of no kind", IllegalArgumentException.class, () -> shed.addLot('z', 1, 1, 0));
        check.refused("no kind and no bay", IndexOutOfBoundsException.class, () -> shed.addLot('z', 0, 0, 99));
        shed.release(7);
        check.same("a 16th lot again", shed.addLot('c', 2, 3, 16), 16);
        check.same("the highest slot stays", shed.lot(15), 16);
    }

    private static void promise3Seal() {
        CustomsShed shed = new CustomsShed();
        shed.addLot('a', 1, 1, 0);
        shed.addLot('a', 1, 1, 1);
        Sheds.addOpen(shed, 1, 5, true);
        shed.open(0);
        shed.open(1);
        check.same("seal", shed.seal(1), 1);
        check.same("seal another", shed.seal(0), 2);
        check.refused("seal a sealed lot", IllegalStateException.class, () -> shed.seal(0));
        check.refused("seal a damp lot", UnsupportedOperationException.class, () -> shed.seal(2));
        check.refused("seal lot 3", NoSuchElementException.class, () -> shed.seal(3));
        check.refused("seal lot -1", NoSuchElementException.class, () -> shed.seal(-1));
        check.holds("the damp lot stays open", !shed.isSealed(2));
        check.holds("the sealed lot is sealed", shed.isSealed(1));
    }

    private static void promise4Open() {
        CustomsShed shed = new CustomsShed();
        shed.addLot('a', 1, 1, 0);
        shed.addLot('a', 1, 1, 1);
        check.same("open", shed.open(1), 1);
        check.holds("the open lot is open", !shed.isSealed(1));
        check.refused("open an open lot", IllegalStateException.class, () -> shed.open(1));
        check.refused("open lot 2", NoSuchElementException.class, () -> shed.open(2));
        check.refused("open lot -1", NoSuchElementException.class, () -> shed.open(-1));
        check.same("open the last", shed.open(0), 0);
        check.holds("an opened lot is dry", !shed.isDamp(0));
    }

    private static void promise5Wet() {
        CustomsShed shed = new CustomsShed();
        shed.addLot('a', 5, 1, 0);
        shed.addLot('a', 5, 1, 1);
        check.refused("wet a sealed lot", IllegalStateException.class, () -> shed.wet(0));
        shed.open(0);
        shed.open(1);
        check.same("wet", shed.wet(1), 1);
        check.refused("wet a damp lot", IllegalStateException.class, () -> shed.wet(1));
        check.same("wet another", shed.wet(0), 2);
        check.refused("wet lot 2", NoSuchElementException.class, () -> shed.wet(2));
        check.same("wet changes no quantity", shed.quantity(1), 5);
    }

    private static void promise6Move() {
        CustomsShed shed = new CustomsShed();
        shed.addLot('b', 1, 1, 3);
        shed.addLot('a', 1, 1, 4);
        check.same("move", shed.move(0, 23), 3);
        check.same("bay after the move", shed.bay(0), 23);
        check.same("move again", shed.move(0, 0), 23);
        check.same("bays after the moves", Sheds.bays(shed), "B...A...................");
        check.refused("move to its own bay", UnsupportedOperationException.class, () -> shed.move(0, 0));
        check.refused("move to a full bay", UnsupportedOperationException.class, () -> shed.move(0, 4));
        check.refused("move to bay 24", IndexOutOfBoundsException.class, () -> shed.move(0, 24));
        check.refused("move to bay -1", IndexOutOfBoundsException.class, () -> shed.move(0, -1));
        check.refused("move lot 2", NoSuchElementException.class, () -> shed.move(2, 1));
        check.refused("move lot 2 to no bay", NoSuchElementException.class, () -> shed.move(2, 24));
        check.same("bay after refused moves", shed.bay(0), 0);
        int damp = Sheds.addOpen(shed, 3, 10, true);
        shed.move(damp, 11);
        check.same("a moved lot stays open and damp", Sheds.lot(shed, damp), "a3*1@11~");
    }

    private static void promise7LotCount() {
        CustomsShed shed = new CustomsShed();
        Sheds.fill(shed);
        check.same("lots of a full shed", shed.lotCount(), 16);
        shed.release(3);
        check.same("lots after a release", shed.lotCount(), 15);
    }

    private static void promise8Lot() {
        CustomsShed shed = new CustomsShed();
        shed.addLot('a', 1, 1, 9);
        shed.addLot('a', 1, 1, 2);
        shed.addLot('a', 1, 1, 5);
        check.same("position 0", shed.lot(0), 0);
        check.same("position 1", shed.lot(1), 1);
        shed.release(1);
        check.same("position 1 after a release", shed.lot(1), 2);
        shed.move(0, 23);
        check.same("position 0 after a move", shed.lot(0), 0);
        check.refused("position 2", IndexOutOfBoundsException.class, () -> shed.lot(2));
        check.refused("position -1", IndexOutOfBoundsException.class, () -> shed.lot(-1));
    }

    private static void promises9To15OneLot() {
        CustomsShed shed = new CustomsShed();
        shed.addLot('a', 1, 2, 0);
        shed.addLot('d', 12, 34, 8);
        check.same("kind", shed.kind(1), 'd');
        check.same("quantity", shed.quantity(1), 12);
        check.same("price", shed.price(1), 34);
        check.same("value", shed.value(1), 408);
        check.same("bay", shed.bay(1), 8);
        check.holds("sealed at first", shed.isSealed(1));
        check.holds("dry at first", !shed.isDamp(1));
        shed.open(1);
        shed.wet(1);
        check.holds("open", !shed.isSealed(1));
        check.holds("damp", shed.isDamp(1));
        shed.passDays(1);
        check.same("quantity of a damp lot after a day", shed.quantity(1), 11);
        check.same("value of a damp lot after a day", shed.value(1), 374);
        shed.release(0);
        for (int lot : new int[] {0, 2, -1, Integer.MIN_VALUE, Integer.MAX_VALUE}) {
            check.refused("kind of " + lot, NoSuchElementException.class, () -> shed.kind(lot));
            check.refused("quantity of " + lot, NoSuchElementException.class, () -> shed.quantity(lot));
            check.refused("price of " + lot, NoSuchElementException.class, () -> shed.price(lot));
            check.refused("value of " + lot, NoSuchElementException.class, () -> shed.value(lot));
            check.refused("bay of " + lot, NoSuchElementException.class, () -> shed.bay(lot));
            check.refused("isSealed of " + lot, NoSuchElementException.class, () -> shed.isSealed(lot));
            check.refused("isDamp of " + lot, NoSuchElementException.class, () -> shed.isDamp(lot));
        }
    }

    private static void promise16LotAt() {
        CustomsShed shed = new CustomsShed();
        shed.addLot('a', 1, 1, 23);
        shed.addLot('a', 1, 1, 0);
        check.same("lot in bay 23", shed.lotAt(23), 0);
        check.same("lot in bay 0", shed.lotAt(0), 1);
        check.refused("lot in an empty bay", NoSuchElementException.class, () -> shed.lotAt(1));
        check.refused("lot in bay 24", IndexOutOfBoundsException.class, () -> shed.lotAt(24));
        check.refused("lot in bay -1", IndexOutOfBoundsException.class, () -> shed.lotAt(-1));
        shed.release(1);
        check.refused("lot in a bay that was left", NoSuchElementException.class, () -> shed.lotAt(0));
    }

    private static void promise17NextEmptyBay() {
        CustomsShed shed = new CustomsShed();
        check.same("next empty bay from an empty one", shed.nextEmptyBay(23), 23);
        shed.addLot('a', 1, 1, 4);
        shed.addLot('a', 1, 1, 5);
        shed.addLot('a', 1, 1, 23);
        shed.addLot('a', 1, 1, 22);
        check.same("next empty bay from 4", shed.nextEmptyBay(4), 6);
        check.same("next empty bay from 3", shed.nextEmptyBay(3), 3);
        check.refused("no empty bay from 22", NoSuchElementException.class, () -> shed.nextEmptyBay(22));
        check.refused("no empty bay from 23", NoSuchElementException.class, () -> shed.nextEmptyBay(23));
        check.refused("bay 24", IndexOutOfBoundsException.class, () -> shed.nextEmptyBay(24));
        check.refused("bay -1", IndexOutOfBoundsException.class, () -> shed.nextEmptyBay(-1));
    }

    private static void promise18QuantityOfKind() {
        CustomsShed shed = new CustomsShed();
        shed.addLot('a', 5, 9, 0);
        shed.addLot('e', 99, 1, 1);
        shed.addLot('a', 7, 1, 2);
        check.same("quantity of a", shed.quantityOfKind('a'), 12);
        check.same("quantity of b", shed.quantityOfKind('b'), 0);
        check.same("quantity of e", shed.quantityOfKind('e'), 99);
        check.refused("quantity of f", IllegalArgumentException.class, () -> shed.quantityOfKind('f'));
        check.refused("quantity of A", IllegalArgumentException.class, () -> shed.quantityOfKind('A'));
        check.refused("quantity of the sign before a", IllegalArgumentException.class, () -> shed.quantityOfKind('`'));
        check.refused("quantity of sign 353", IllegalArgumentException.class, () -> shed.quantityOfKind((char) (256 + 'a')));
    }

    private static void promise19LotByValue() {
        CustomsShed shed = new CustomsShed();
        shed.addLot('a', 2, 6, 0);
        shed.addLot('a', 50, 50, 1);
        shed.addLot('a', 3, 4, 2);
        shed.addLot('a', 99, 1, 3);
        shed.addLot('a', 12, 1, 4);
        check.same("rank 0", shed.lotByValue(0), 1);
        check.same("rank 1", shed.lotByValue(1), 3);
        check.same("rank 2, the smallest id of three", shed.lotByValue(2), 0);
        check.same("rank 3", shed.lotByValue(3), 2);
        check.same("rank 4", shed.lotByValue(4), 4);
        check.refused("rank 5", IndexOutOfBoundsException.class, () -> shed.lotByValue(5));
        check.refused("rank -1", IndexOutOfBoundsException.class, () -> shed.lotByValue(-1));
        shed.release(0);
        check.same("rank 2 after a release", shed.lotByValue(2), 2);
    }
}
