import java.util.function.Consumer;

/** Promises 56 to 59: undo and saved state. */
public final class UndoTest {
    private static final Check check = new Check("UndoTest");

    public static void main(String[] args) {
        promise56EveryChange();
        promise56AtMostEight();
        promise56RefusedCallsAreNoChanges();
        promise56LeavesBufferAndOutput();
        promise57UndoCount();
        promise58Save();
        promise59Restore();
        promise59RestoresEverything();
        check.finish();
    }

    private static void promise56EveryChange() {
        CustomsShed nothing = new CustomsShed();
        check.refused("undo of nothing", IllegalStateException.class, () -> nothing.undo());
        undone("addLot", shed -> shed.addLot('b', 2, 2, 5));
        undone("seal", shed -> shed.seal(1));
        undone("open", shed -> shed.open(0));
        undone("wet", shed -> shed.wet(1));
        undone("move", shed -> shed.move(0, 9));
        undone("enqueue", shed -> shed.enqueue(1));
        undone("audit", shed -> shed.audit());
        undone("release of a sealed lot", shed -> shed.release(0));
        undone("release of an open lot", shed -> shed.release(1));
        undone("addStep", shed -> shed.addStep(5, 5));
        undone("removeStep", shed -> shed.removeStep(7));
        undone("deposit", shed -> shed.deposit(5));
        undone("passDays that destroys a lot", shed -> shed.passDays(3));
        undone("execute", shed -> Sheds.execute(shed, "open 0;wet 0;day;bond 5;step 1=1"));
    }

    /** Lot 0 is sealed and waits, lot 1 is open and dry, lot 2 is damp. */
    private static CustomsShed prepared() {
        CustomsShed shed = new CustomsShed();
        shed.addStep(7, 70);
        shed.addLot('a', 1, 10, 0);
        shed.addLot('c', 5, 5, 12);
        shed.open(1);
        Sheds.addOpen(shed, 3, 20, true);
        shed.enqueue(0);
        shed.deposit(100);
        return shed;
    }

    private static void undone(String what, Consumer<CustomsShed> change) {
        CustomsShed shed = prepared();
        String before = state(shed);
        change.accept(shed);
        check.holds(what + " changes something", !state(shed).equals(before));
        shed.undo();
        check.same("undo of " + what, state(shed), before);
    }

    private static String state(CustomsShed shed) {
        StringBuilder state = new StringBuilder();
        for (int position = 0; position < shed.lotCount(); position++) {
            state.append(shed.lot(position)).append('=');
            state.append(Sheds.lot(shed, shed.lot(position))).append(' ');
        }
        for (int step = 0; step < shed.stepCount(); step++) {
            state.append(shed.threshold(step)).append('>').append(shed.rate(step)).append(' ');
        }
        state.append("queue ").append(Sheds.queue(shed)).append("day ").append(shed.day());
        state.append(" destroyed ").append(shed.destroyedCount()).append(" bond ").append(shed.bond());
        return state.append(" collected ").append(shed.collected()).toString();
    }

    private static void promise56AtMostEight() {
        CustomsShed shed = new CustomsShed();
        for (int change = 1; change <= 30; change++) {
            shed.deposit(1);
        }
        check.same("changes after 30", shed.undoCount(), 8);
        for (int left = 7; left >= 0; left--) {
            check.same("undo", shed.undo(), left);
            check.same("bond", shed.bond(), 22 + left);
        }
        check.refused("a ninth undo", IllegalStateException.class, () -> shed.undo());
        check.same("bond after the ninth", shed.bond(), 22);
        shed.deposit(5);
        shed.deposit(7);
        check.same("undo of the newest", shed.undo(), 1);
        check.same("bond after it", shed.bond(), 27);
        shed.deposit(9);
        check.same("undo after a new change", shed.undo(), 1);
        check.same("bond after that", shed.bond(), 27);
        check.same("undo of the last", shed.undo(), 0);
        check.same("bond at the end", shed.bond(), 22);
    }

    private static void promise56RefusedCallsAreNoChanges() {
        CustomsShed shed = new CustomsShed();
        for (int change = 1; change <= 10; change++) {
            shed.deposit(1);
        }
        check.refused("seal", java.util.NoSuchElementException.class, () -> shed.seal(0));
        Sheds.feed(shed, "bond 5;audit");
        check.refused("execute", UnsupportedOperationException.class, () -> shed.execute());
        check.refused("execute", IllegalArgumentException.class, () -> shed.execute());
        check.same("changes", shed.undoCount(), 8);
        for (int left = 7; left >= 0; left--) {
            check.same("undo", shed.undo(), left);
            check.same("bond", shed.bond(), 2 + left);
        }
    }

    private static void promise56LeavesBufferAndOutput() {
        CustomsShed shed = new CustomsShed();
        shed.addLot('a', 1, 1, 0);
        shed.save();
        Sheds.feed(shed, "da");
        int length = shed.writeLot(0);
        shed.undo();
        shed.restore();
        check.same("output afterwards", Sheds.output(shed, length), "a1*1@0#");
        check.same("buffer afterwards", shed.feed('y'), 3);
        check.same("execute", shed.execute(), 1);
    }

    private static void promise57UndoCount() {
        CustomsShed shed = new CustomsShed();
        check.same("at first", shed.undoCount(), 0);
        shed.addLot('a', 9, 1, 0);
        shed.addStep(0, 0);
        shed.lotCount();
        shed.dampAfter(3);
        shed.writeBays();
        shed.feed('x');
        shed.save();
        check.same("after two changes", shed.undoCount(), 2);
        check.same("undo", shed.undo(), 1);
        check.same("after undo", shed.undoCount(), 1);
    }

    private static void promise58Save() {
        CustomsShed shed = new CustomsShed();
        check.same("save of nothing", shed.save(), 0);
        shed.addLot('a', 9, 1, 0);
        check.same("save of a lot", shed.save(), 1);
        check.same("save leaves the changes", shed.undo(), 0);
        check.same("undo leaves what was saved", shed.restore(), 1);
        shed.addLot('b', 9, 1, 1);
        check.same("save in place of it", shed.save(), 2);
        shed.release(0);
        shed.release(1);
        check.same("the latest is restored", shed.restore(), 2);
    }

    private static void promise59Restore() {
        CustomsShed shed = new CustomsShed();
        check.refused("nothing was saved", IllegalStateException.class, () -> shed.restore());
        shed.addLot('a', 9, 1, 0);
        shed.save();
        shed.addLot('a', 9, 1, 1);
        check.same("restore", shed.restore(), 1);
        check.same("no changes", shed.undoCount(), 0);
        check.refused("undo", IllegalStateException.class, () -> shed.undo());
        check.same("the id is restored", shed.addLot('a', 9, 1, 1), 1);
        check.same("it stays saved", shed.restore(), 1);
        shed.passDays(2);
        check.same("it stays saved again", shed.restore(), 1);
        check.same("day", shed.day(), 0);
    }

    private static void promise59RestoresEverything() {
        CustomsShed shed = new CustomsShed();
        shed.addStep(7, 70);
        shed.addStep(70, 7);
        shed.addLot('a', 1, 10, 0);
        shed.addLot('b', 10, 10, 1);
        shed.open(0);
        shed.open(1);
        shed.wet(0);
        shed.deposit(100);
        shed.enqueue(1);
        shed.passDays(1);
        shed.addLot('d', 5, 5, 5);
        shed.release(2);
        shed.save();
        String before = state(shed);
        shed.removeStep(7);
        shed.addStep(8, 80);
        shed.addStep(9, 80);
        shed.release(1);
        Sheds.fill(shed);
        shed.enqueue(9);
        shed.passDays(9);
        shed.restore();
        check.same("restored", state(shed), before);
        check.same("the next id", shed.addLot('e', 1, 1, 9), 3);
    }
}
