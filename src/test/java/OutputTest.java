import java.util.NoSuchElementException;

/** Promises 46 to 51: statistics, the output and consistency. */
public final class OutputTest {
    private static final Check check = new Check("OutputTest");

    public static void main(String[] args) {
        promise46MeanValue();
        promise47SealedFraction();
        promise48WriteLot();
        promise49WriteBays();
        promise50OutputCharacter();
        promise51IsConsistent();
        check.finish();
    }

    private static void promise46MeanValue() {
        CustomsShed shed = new CustomsShed();
        check.refused("mean of nothing", ArithmeticException.class, () -> shed.meanValue());
        shed.addLot('a', 1, 1, 0);
        shed.addLot('a', 2, 1, 1);
        check.same("mean of 1 and 2", shed.meanValue(), 1.5);
        shed.addLot('a', 7, 1, 2);
        check.same("mean of 1, 2 and 7", shed.meanValue(), 10.0 / 3.0);
        shed.release(0);
        shed.release(1);
        check.same("mean of 7", shed.meanValue(), 7.0);
        shed.release(2);
        check.refused("mean of nothing left", ArithmeticException.class, () -> shed.meanValue());
    }

    private static void promise47SealedFraction() {
        CustomsShed shed = new CustomsShed();
        check.refused("fraction of nothing", ArithmeticException.class, () -> shed.sealedFraction());
        shed.addLot('a', 1, 1, 0);
        shed.addLot('a', 1, 1, 1);
        shed.addLot('a', 1, 1, 2);
        check.same("three of three", shed.sealedFraction(), 1.0f);
        shed.open(1);
        check.same("two of three", shed.sealedFraction(), 2.0f / 3.0f);
        shed.open(0);
        check.same("one of three", shed.sealedFraction(), 1.0f / 3.0f);
        shed.open(2);
        check.same("none of three", shed.sealedFraction(), 0.0f);
    }

    private static void promise48WriteLot() {
        CustomsShed shed = new CustomsShed();
        shed.addLot('c', 5, 20, 3);
        shed.enqueue(0);
        check.same("length", shed.writeLot(0), 9);
        check.same("the example", Sheds.lot(shed, 0), "c5*20@3#?");
        shed.audit();
        check.same("open, not in the queue", Sheds.lot(shed, 0), "c5*20@3");
        shed.wet(0);
        check.same("damp", Sheds.lot(shed, 0), "c5*20@3~");
        shed.enqueue(0);
        check.same("damp and in the queue", Sheds.lot(shed, 0), "c5*20@3~?");
        shed.addLot('e', 99, 99, 23);
        check.same("sealed", Sheds.lot(shed, 1), "e99*99@23#");
        int length = shed.writeLot(1);
        check.refused("write lot 2", NoSuchElementException.class, () -> shed.writeLot(2));
        check.refused("write lot -1", NoSuchElementException.class, () -> shed.writeLot(-1));
        check.same("the output after refused calls", Sheds.output(shed, length), "e99*99@23#");
    }

    private static void promise49WriteBays() {
        CustomsShed shed = new CustomsShed();
        check.same("length", shed.writeBays(), 24);
        shed.addLot('a', 1, 1, 0);
        shed.addLot('e', 1, 1, 23);
        shed.addLot('b', 1, 1, 4);
        shed.addLot('d', 1, 1, 5);
        shed.open(2);
        shed.open(3);
        shed.wet(3);
        check.same("bays", Sheds.bays(shed), "A...b~.................E");
        check.same("length with lots", shed.writeBays(), 24);
    }

    private static void promise50OutputCharacter() {
        CustomsShed shed = new CustomsShed();
        check.refused("character 0 at first", IndexOutOfBoundsException.class, () -> shed.outputCharacter(0));
        shed.addLot('b', 1, 1, 0);
        shed.writeBays();
        check.same("character 0 of the bays", shed.outputCharacter(0), 'B');
        check.same("character 23 of the bays", shed.outputCharacter(23), '.');
        check.refused("character 24", IndexOutOfBoundsException.class, () -> shed.outputCharacter(24));
        check.same("length of the lot", shed.writeLot(0), 7);
        check.same("the lot replaces the bays", Sheds.output(shed, 7), "b1*1@0#");
        check.refused("character 7", IndexOutOfBoundsException.class, () -> shed.outputCharacter(7));
        check.refused("character -1", IndexOutOfBoundsException.class, () -> shed.outputCharacter(-1));
        shed.undo();
        check.same("undo leaves the output", Sheds.output(shed, 7), "b1*1@0#");
    }

    /** No call makes a shed inconsistent; so only the answer true can be tested here. */
    private static void promise51IsConsistent() {
        CustomsShed shed = new CustomsShed();
        check.holds("a new shed is consistent", shed.isConsistent());
        for (int step = 0; step < 6; step++) {
            shed.addStep(step * 333, 17 * step + 3);
        }
        for (int bay = 0; bay < 16; bay++) {
            shed.addLot('a', 99 - bay, 5 * bay + 1, 23 - bay);
            if (bay % 3 != 0) {
                shed.open(bay);
            }
            if (bay % 5 == 2 && !shed.isSealed(bay)) {
                shed.wet(bay);
            }
            check.holds("consistent with " + shed.lotCount() + " lots", shed.isConsistent());
        }
        shed.passDays(1);
        check.holds("consistent after a day", shed.isConsistent());
    }
}
