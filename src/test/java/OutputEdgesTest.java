/** Promises 46 to 51: each sentence that names an edge. */
public final class OutputEdgesTest {
    private static final Check check = new Check("OutputEdgesTest");
    private static final Edges fresh = new Edges(check, CustomsShed::new);
    private static final Edges busy = new Edges(check, Recipes::busy);
    private static final Edges emptied = new Edges(check, OutputEdgesTest::emptied);

    public static void main(String[] args) {
        promise46NoLots();
        promise46Means();
        promise47NoLots();
        promise47Fractions();
        promise48NoSuchLot();
        promise48Signs();
        promise48Numbers();
        promise49Bays();
        promise49Signs();
        promise50EmptyAtFirst();
        promise50EndOfTheOutput();
        promise50IsReplaced();
        promise50StaysAsWritten();
        promise51IsConsistent();
        check.finish();
    }

    /** A shed whose only lot was released. */
    private static CustomsShed emptied() {
        CustomsShed shed = new CustomsShed();
        shed.addLot('a', 1, 1, 0);
        shed.release(0);
        return shed;
    }

    private static void promise46NoLots() {
        fresh.refuses("mean of no lots", Edges.ARITHMETIC, shed -> shed.meanValue());
        emptied.refuses("mean of no lots left", Edges.ARITHMETIC, shed -> shed.meanValue());
        CustomsShed shed = emptied();
        shed.undo();
        check.same("mean of one again", shed.meanValue(), 1.0);
    }

    private static void promise46Means() {
        check.same("mean of the busy shed", Recipes.busy().meanValue(), 10292.0 / 5.0);
        check.same("mean of a full shed", Recipes.full(0).meanValue(), 1.0);
        CustomsShed shed = new CustomsShed();
        int sum = 0;
        for (int lot = 0; lot < 16; lot++) {
            shed.addLot('c', 99 - lot, 99 - 5 * lot, lot);
            sum += (99 - lot) * (99 - 5 * lot);
            check.same("mean of " + (lot + 1), shed.meanValue(), (double) sum / (double) (lot + 1));
        }
        CustomsShed thirds = new CustomsShed();
        thirds.addLot('a', 1, 1, 0);
        thirds.addLot('a', 1, 1, 1);
        thirds.addLot('a', 1, 2, 2);
        check.same("mean of 1, 1 and 2", thirds.meanValue(), 4.0 / 3.0);
        check.holds("not the mean as a float", thirds.meanValue() != (double) (4.0f / 3.0f));
    }

    private static void promise47NoLots() {
        fresh.refuses("fraction of no lots", Edges.ARITHMETIC, shed -> shed.sealedFraction());
        emptied.refuses("fraction of no lots left", Edges.ARITHMETIC, shed -> shed.sealedFraction());
    }

    private static void promise47Fractions() {
        for (int lots = 1; lots <= 16; lots++) {
            CustomsShed shed = new CustomsShed();
            for (int bay = 0; bay < lots; bay++) {
                shed.addLot('a', 1, 1, bay);
            }
            for (int opened = 0; opened < lots; opened++) {
                check.same("sealed of " + lots, shed.sealedFraction(), (float) (lots - opened) / (float) lots);
                shed.open(opened);
            }
            check.same("none sealed of " + lots, shed.sealedFraction(), 0.0f);
        }
        check.same("fraction of the busy shed", Recipes.busy().sealedFraction(), 2.0f / 5.0f);
    }

    private static void promise48NoSuchLot() {
        Edges.refuseLots(check, "writeLot", (shed, lot) -> shed.writeLot(lot));
    }

    private static void promise48Signs() {
        CustomsShed shed = new CustomsShed();
        shed.addLot('c', 5, 20, 3);
        written(shed, "c5*20@3#");
        shed.enqueue(0);
        written(shed, "c5*20@3#?");
        shed.open(0);
        written(shed, "c5*20@3?");
        shed.wet(0);
        written(shed, "c5*20@3~?");
        shed.audit();
        written(shed, "c5*20@3~");
        shed.undo();
        shed.undo();
        shed.audit();
        written(shed, "c5*20@3");
    }

    private static void written(CustomsShed shed, String due) {
        check.same("length of " + due, shed.writeLot(0), due.length());
        check.same("output", Trace.output(shed).replace(" ", ""), due + "IndexOutOfBoundsException");
    }

    private static void promise48Numbers() {
        for (int number : new int[] {1, 9, 10, 11, 99}) {
            for (int bay : new int[] {0, 9, 10, 23}) {
                for (char kind = 'a'; kind <= 'e'; kind++) {
                    CustomsShed shed = new CustomsShed();
                    shed.addLot(kind, number, 100 - number, bay);
                    written(shed, kind + "" + number + "*" + (100 - number) + "@" + bay + "#");
                }
            }
        }
        CustomsShed shed = new CustomsShed();
        Sheds.addOpen(shed, 10, 0, true);
        shed.passDays(1);
        written(shed, "a9*1@0~");
    }

    private static void promise49Bays() {
        fresh.answers("length of no lots", 24, CustomsShed::writeBays);
        busy.answers("length", 24, CustomsShed::writeBays);
        check.same("bays of no lots", Sheds.bays(new CustomsShed()), ".".repeat(24));
        check.same("bays of 16 lots from 0", Sheds.bays(Recipes.full(0)), "A".repeat(16) + ".".repeat(8));
        check.same("bays of 16 lots from 8", Sheds.bays(Recipes.full(8)), ".".repeat(8) + "A".repeat(16));
        check.same("bays of the busy shed", Sheds.bays(Recipes.busy()), "E.A..b..~...a...........");
    }

    private static void promise49Signs() {
        CustomsShed shed = new CustomsShed();
        for (int index = 0; index < 5; index++) {
            shed.addLot((char) ('a' + index), 9, 1, 23 - 2 * index);
        }
        check.same("sealed", Sheds.bays(shed), "...............E.D.C.B.A");
        for (int lot = 0; lot < 5; lot++) {
            shed.open(lot);
        }
        check.same("open", Sheds.bays(shed), "...............e.d.c.b.a");
        for (int lot = 0; lot < 5; lot++) {
            shed.wet(lot);
            shed.enqueue(lot);
        }
        check.same("damp", Sheds.bays(shed), "...............~.~.~.~.~");
    }

    private static void promise50EmptyAtFirst() {
        fresh.refusesIndexesBeyond("outputCharacter at first", 0, (shed, index) -> shed.outputCharacter(index));
        emptied.refusesIndexesBeyond("outputCharacter later", 0, (shed, index) -> shed.outputCharacter(index));
        fresh.leavesNoTrace("refused writeLot", shed -> shed.writeLot(0));
    }

    private static CustomsShed withBays() {
        CustomsShed shed = Recipes.busy();
        shed.writeBays();
        return shed;
    }

    private static void promise50EndOfTheOutput() {
        busy.refusesIndexesBeyond("outputCharacter of a lot", 8, (shed, index) -> shed.outputCharacter(index));
        busy.answers("the first of a lot", 'b', shed -> shed.outputCharacter(0));
        busy.answers("the last of a lot", '?', shed -> shed.outputCharacter(7));
        Edges bays = new Edges(check, OutputEdgesTest::withBays);
        bays.refusesIndexesBeyond("outputCharacter of the bays", 24, (shed, index) -> shed.outputCharacter(index));
        bays.answers("the first of the bays", 'E', shed -> shed.outputCharacter(0));
        bays.answers("the last of the bays", '.', shed -> shed.outputCharacter(23));
    }

    /** A shorter output after a longer one, and the other way round. */
    private static void promise50IsReplaced() {
        Edges shorter = new Edges(check, () -> {
            CustomsShed shed = withBays();
            shed.writeLot(2);
            return shed;
        });
        shorter.refusesIndexesBeyond("outputCharacter after a shorter one", 7, (shed, index) -> shed.outputCharacter(index));
        shorter.answers("the last of the shorter one", '~', shed -> shed.outputCharacter(6));
        CustomsShed shed = Recipes.busy();
        shed.writeLot(4);
        check.same("a longer one", Trace.output(shed).replace(" ", ""), "e99*99@0#?IndexOutOfBoundsException");
        shed.writeBays();
        shed.writeBays();
        check.same("the bays twice", Trace.output(shed).replace(" ", ""), "E.A..b..~...a...........IndexOutOfBoundsException");
    }

    /** The output is what was written, whatever happens to the lot later. */
    private static void promise50StaysAsWritten() {
        CustomsShed shed = Recipes.busy();
        String before = Trace.output(shed);
        shed.audit();
        shed.audit();
        shed.move(1, 20);
        same(shed, before);
        shed.deposit(99);
        shed.release(1);
        same(shed, before);
        shed.undo();
        same(shed, before);
        shed.save();
        same(shed, before);
        shed.restore();
        same(shed, before);
        shed.passDays(30);
        same(shed, before);
        shed.execute();
        same(shed, before);
    }

    private static void same(CustomsShed shed, String before) {
        check.same("output as written", Trace.output(shed), before);
    }

    private static void promise51IsConsistent() {
        check.holds("a new shed", new CustomsShed().isConsistent());
        check.holds("a shed without lots", Recipes.sixSteps().isConsistent());
        check.holds("a shed without steps", Recipes.row(16, 9, 8).isConsistent());
        check.holds("the busy shed", Recipes.busy().isConsistent());
        check.holds("a shed that lost all lots", emptied().isConsistent());
        busy.leavesNoTrace("isConsistent", shed -> shed.isConsistent());
        CustomsShed shed = Recipes.row(16, 99, 8);
        shed.addStep(0, 33);
        shed.addStep(98, 67);
        shed.addStep(99, 1);
        for (int day = 0; day < 17; day++) {
            check.holds("consistent on day " + day, shed.isConsistent());
            shed.passDays(1);
        }
    }
}
