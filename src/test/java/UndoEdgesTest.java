import java.util.function.Consumer;
import java.util.function.Supplier;

/** Promises 56 to 59 and the terms of undo: each sentence that names an edge. */
public final class UndoEdgesTest {
    private static final Check check = new Check("UndoEdgesTest");
    private static final Edges fresh = new Edges(check, CustomsShed::new);
    private static final Edges busy = new Edges(check, Recipes::busy);

    public static void main(String[] args) {
        promise56EveryChange();
        promise56OnlyChanges();
        promise56RefusedCalls();
        promise56NoneAtAll();
        promise56NoneLeft();
        promise56EightChanges();
        promise56ChangesAfterUndo();
        promise56TheNextId();
        promise56ManyChanges();
        termsWhatUndoLeaves();
        promise57Counts();
        promise58Counts();
        promise58InPlaceOfTheOneBefore();
        promise58IsNoChange();
        promise59NothingSaved();
        promise59EveryChange();
        promise59StaysSaved();
        promise59NoUndo();
        promise59TheNextId();
        termsWhatRestoreLeaves();
        check.finish();
    }

    /** Each kind of change, and texts; every one can be made in the busy and in the calm shed. */
    private static void forEachChange(Consumer<Consumer<CustomsShed>> test) {
        test.accept(shed -> shed.addLot('b', 7, 8, 9));
        test.accept(shed -> shed.seal(1));
        test.accept(shed -> shed.open(0));
        test.accept(shed -> shed.wet(6));
        test.accept(shed -> shed.move(4, 23));
        test.accept(shed -> shed.release(2));
        test.accept(shed -> shed.release(4));
        test.accept(shed -> shed.addStep(50, 70));
        test.accept(shed -> shed.removeStep(0));
        test.accept(shed -> shed.passDays(1));
        test.accept(shed -> shed.passDays(30));
        test.accept(shed -> shed.enqueue(0));
        test.accept(shed -> shed.audit());
        test.accept(shed -> shed.deposit(999));
        test.accept(UndoEdgesTest::executeAText);
    }

    /** The buffer is emptied ahead: so it is as empty after the change and its undo. */
    private static void executeAText(CustomsShed shed) {
        Sheds.execute(shed, "lot a1*1@1;open 0;bond 5;day;queue 0;step 7=7;release 2");
    }

    private static CustomsShed calm() {
        return Recipes.calm();
    }

    private static CustomsShed after(CustomsShed shed, Consumer<CustomsShed> call) {
        call.accept(shed);
        return shed;
    }

    private static void promise56EveryChange() {
        forEachChange(change -> {
            String before = Trace.look(calm());
            CustomsShed shed = after(calm(), change);
            check.same("changes after one more", shed.undoCount(), 3);
            check.holds("it changes something", !Trace.look(shed).split("changes")[0].equals(before.split("changes")[0]));
            check.same("undo", shed.undo(), 2);
            check.same("look after undo", Trace.look(shed), before);
            check.same("trace after undo", Trace.of(() -> undone(change)), Trace.of(UndoEdgesTest::calm));
            fromEight(change);
        });
    }

    private static CustomsShed undone(Consumer<CustomsShed> change) {
        CustomsShed shed = after(calm(), change);
        shed.undo();
        return shed;
    }

    /** The change is the ninth: the first of the eight before can be undone no more. */
    private static void fromEight(Consumer<CustomsShed> change) {
        check.same("changes after the ninth", after(Recipes.idle(), change).undoCount(), 8);
        for (int undos = 1; undos <= 8; undos++) {
            CustomsShed shed = after(Recipes.idle(), change);
            for (int undone = 1; undone <= undos; undone++) {
                check.same("undo", shed.undo(), 8 - undone);
            }
            CustomsShed twin = undoneTimes(Recipes::idle, undos - 1);
            check.same("look after undo", Trace.look(shed).split("changes")[0], Trace.look(twin).split("changes")[0]);
            if (undos == 8) {
                check.refused("a ninth undo", Edges.STATE, () -> shed.undo());
            }
        }
    }

    private static void promise56OnlyChanges() {
        String[] names = {"look", "feed", "writeLot", "writeBays", "save", "undo and restore"};
        for (String name : names) {
            CustomsShed shed = calm();
            switch (name) {
                case "look" -> Trace.look(shed);
                case "feed" -> shed.feed('x');
                case "writeLot" -> shed.writeLot(1);
                case "writeBays" -> shed.writeBays();
                case "save" -> shed.save();
                default -> check.same("undo is no change", shed.undo(), 1);
            }
            check.same("changes after " + name, shed.undoCount(), name.startsWith("undo") ? 1 : 2);
        }
        busy.answers("changes after dampAfter", 8, shed -> shed.dampAfter(0) - 1 + shed.undoCount());
        busy.answers("undo after dampAfter", 30, shed -> {
            shed.dampAfter(30);
            shed.undo();
            return shed.bond();
        });
    }

    private static void promise56RefusedCalls() {
        busy.refuses("addLot", Edges.UNSUPPORTED, shed -> shed.addLot('a', 1, 1, 0));
        busy.refuses("removeStep", Edges.NO_ELEMENT, shed -> shed.removeStep(1));
        busy.refuses("passDays", Edges.ARGUMENT, shed -> shed.passDays(0));
        busy.leavesNoTrace("many refused calls", shed -> {
            for (int times = 0; times < 10; times++) {
                Trace.answer(() -> shed.seal(0));
                Trace.answer(() -> shed.deposit(0));
                Trace.answer(() -> shed.addStep(0, 0));
                Trace.answer(() -> shed.move(0, 2));
            }
        });
        Edges idle = new Edges(check, Recipes::idle);
        idle.leavesNoTrace("refused texts", shed -> {
            for (int times = 0; times < 10; times++) {
                Recipes.keep(shed, "bond 5;wet 2");
                Recipes.keep(shed, "bo");
            }
        });
    }

    private static void promise56NoneAtAll() {
        fresh.refuses("undo in a new shed", Edges.STATE, shed -> shed.undo());
        Edges one = new Edges(check, () -> after(new CustomsShed(), shed -> shed.deposit(1)));
        one.answers("undo of the only change", 0, shed -> shed.undo());
        one.answers("bond after it", 0, shed -> shed.undo() + shed.bond());
        one.answers("changes after it", 0, shed -> shed.undo() + shed.undoCount());
    }

    private static CustomsShed undoneTimes(Supplier<CustomsShed> recipe, int times) {
        CustomsShed shed = recipe.get();
        for (int time = 0; time < times; time++) {
            shed.undo();
        }
        return shed;
    }

    private static void promise56NoneLeft() {
        new Edges(check, () -> undoneTimes(Recipes::busy, 8)).refuses("a ninth undo", Edges.STATE, shed -> shed.undo());
        new Edges(check, () -> undoneTimes(UndoEdgesTest::calm, 2)).refuses("a third undo", Edges.STATE, shed -> shed.undo());
        for (int times = 0; times < 8; times++) {
            int made = times;
            new Edges(check, () -> undoneTimes(Recipes::busy, made)).answers("undo " + (times + 1), 7 - times, shed -> shed.undo());
        }
    }

    private static CustomsShed withDeposits(int deposits) {
        CustomsShed shed = new CustomsShed();
        for (int coins = 1; coins <= deposits; coins++) {
            shed.deposit(coins);
        }
        return shed;
    }

    private static void promise56EightChanges() {
        for (int changes = 0; changes <= 30; changes++) {
            CustomsShed shed = withDeposits(changes);
            int most = Math.min(changes, 8);
            check.same("changes of " + changes, shed.undoCount(), most);
            int due = changes * (changes + 1) / 2;
            for (int undone = 0; undone < most; undone++) {
                check.same("bond", shed.bond(), due);
                due -= changes - undone;
                check.same("undo", shed.undo(), most - undone - 1);
                check.same("undoCount", shed.undoCount(), most - undone - 1);
            }
            check.same("bond after all", shed.bond(), due);
            check.refused("one undo more", Edges.STATE, () -> shed.undo());
            check.same("bond after the refused one", shed.bond(), due);
        }
    }

    /** An undone change is gone for good: what comes after it takes its place. */
    private static void promise56ChangesAfterUndo() {
        for (int undone = 1; undone <= 8; undone++) {
            for (int more = 1; more <= 9; more++) {
                CustomsShed shed = withDeposits(12);
                int bond = 78;
                for (int undo = 0; undo < undone; undo++) {
                    shed.undo();
                    bond -= 12 - undo;
                }
                for (int change = 0; change < more; change++) {
                    shed.deposit(100);
                }
                int left = Math.min(8, 8 - undone + more);
                check.same("changes", shed.undoCount(), left);
                for (int undo = 0; undo < Math.min(more, 8); undo++) {
                    check.same("undo", shed.undo(), left - undo - 1);
                    check.same("bond", shed.bond(), bond + 100 * (more - undo - 1));
                }
            }
        }
    }

    private static void promise56TheNextId() {
        CustomsShed shed = new CustomsShed();
        check.same("the first id", shed.addLot('a', 1, 1, 0), 0);
        check.same("the second id", shed.addLot('b', 1, 1, 1), 1);
        shed.undo();
        check.same("the second id again", shed.addLot('c', 1, 1, 2), 1);
        check.same("it is the new lot", shed.kind(1), 'c');
        shed.release(1);
        check.same("the third id", shed.addLot('d', 1, 1, 3), 2);
        shed.undo();
        shed.undo();
        check.same("the released lot is back", shed.kind(1), 'c');
        check.same("the third id again", shed.addLot('e', 1, 1, 3), 2);
        shed.undo();
        shed.undo();
        shed.undo();
        check.refused("undo of nothing", Edges.STATE, () -> shed.undo());
        check.same("the first id again", shed.addLot('a', 1, 1, 0), 0);
        check.same("ids of a text", Sheds.execute(shed, "lot a1*1@1;lot a1*1@2;lot a1*1@3"), 3);
        shed.undo();
        check.same("the id after a text was undone", shed.addLot('a', 1, 1, 9), 1);
        check.same("a refused text", Trace.answer(() -> Sheds.execute(shed, "lot a1*1@1;audit")), "UnsupportedOperationException ");
        check.same("the id after it", shed.addLot('a', 1, 1, 10), 2);
    }

    private static void promise56ManyChanges() {
        CustomsShed shed = new CustomsShed();
        for (int change = 1; change <= 100; change++) {
            shed.passDays(1 + change % 30);
            check.same("changes", shed.undoCount(), Math.min(change, 8));
        }
        int day = shed.day();
        for (int change = 100; change > 92; change--) {
            shed.undo();
            day -= 1 + change % 30;
            check.same("day", shed.day(), day);
        }
        check.refused("undo of an older change", Edges.STATE, () -> shed.undo());
    }

    private static void termsWhatUndoLeaves() {
        CustomsShed shed = Recipes.busy();
        String output = Trace.output(shed);
        for (int undo = 0; undo < 8; undo++) {
            shed.undo();
            check.same("output", Trace.output(shed), output);
            check.same("error position", shed.errorPosition(), 2);
            check.same("failed command", shed.failedCommand(), 1);
        }
        check.same("the buffer goes on", shed.feed('7'), 7);
        check.same("execute of the buffer", shed.execute(), 1);
        check.same("bond 77", shed.bond(), 107);
        check.same("undo does not fill the buffer again", shed.undo() + shed.feed('d'), 1);
    }

    private static void promise57Counts() {
        fresh.answers("undoCount of a new shed", 0, CustomsShed::undoCount);
        busy.answers("undoCount", 8, CustomsShed::undoCount);
        new Edges(check, UndoEdgesTest::calm).answers("undoCount of two", 2, CustomsShed::undoCount);
        busy.answers("undoCount after undo", 7, shed -> shed.undo() - 7 + shed.undoCount());
        busy.answers("undoCount after restore", 0, shed -> shed.restore() - 6 + shed.undoCount());
        busy.leavesNoTrace("undoCount", shed -> shed.undoCount());
    }

    private static void promise58Counts() {
        fresh.answers("save of a new shed", 0, CustomsShed::save);
        busy.answers("save", 5, CustomsShed::save);
        new Edges(check, () -> Recipes.full(0)).answers("save of a full shed", 16, CustomsShed::save);
        busy.answers("restore", 6, CustomsShed::restore);
        busy.answers("restore after save", 5, shed -> shed.save() - 5 + shed.restore());
    }

    private static void promise58InPlaceOfTheOneBefore() {
        forEachChange(change -> {
            CustomsShed shed = Recipes.idle();
            shed.save();
            change.accept(shed);
            String due = Trace.look(shed).split("changes")[0];
            shed.save();
            shed.undo();
            shed.restore();
            check.same("the latest is restored", Trace.look(shed).split("changes")[0], due);
        });
    }

    private static void promise58IsNoChange() {
        CustomsShed shed = Recipes.busy();
        shed.save();
        check.same("changes after save", shed.undoCount(), 8);
        check.same("undo after save", shed.undo(), 7);
        check.same("bond after undo", shed.bond(), 30);
        check.same("undo leaves the saved one", shed.restore(), 5);
        check.same("bond after restore", shed.bond(), 35);
    }

    private static void promise59NothingSaved() {
        fresh.refuses("restore in a new shed", Edges.STATE, shed -> shed.restore());
        new Edges(check, () -> Recipes.full(0)).refuses("restore in a full shed", Edges.STATE, shed -> shed.restore());
        Edges one = new Edges(check, () -> withDeposits(3));
        one.refuses("restore with changes", Edges.STATE, shed -> shed.restore());
        fresh.answers("restore of an empty shed", 0, shed -> {
            shed.save();
            shed.addLot('a', 1, 1, 0);
            return shed.restore();
        });
    }

    private static void promise59EveryChange() {
        forEachChange(change -> {
            String saved = Trace.of(() -> after(Recipes.idle(), UndoEdgesTest::saveAndRestore));
            String got = Trace.of(() -> after(Recipes.idle(), shed -> {
                shed.save();
                change.accept(shed);
                shed.restore();
            }));
            check.same("trace after restore", got, saved);
        });
    }

    private static void saveAndRestore(CustomsShed shed) {
        shed.save();
        shed.restore();
    }

    private static void promise59StaysSaved() {
        forEachChange(change -> {
            CustomsShed shed = Recipes.idle();
            shed.save();
            String due = Trace.look(shed).split("changes")[0];
            shed.restore();
            change.accept(shed);
            check.same("restore again", shed.restore(), 5);
            check.same("look after it", Trace.look(shed).split("changes")[0], due);
            change.accept(shed);
            shed.undo();
            check.same("undo back to it", Trace.look(shed).split("changes")[0], due);
            check.same("restore once more", shed.restore(), 5);
        });
    }

    private static void promise59NoUndo() {
        Edges restored = new Edges(check, () -> after(Recipes.busy(), shed -> shed.restore()));
        restored.refuses("undo after restore", Edges.STATE, shed -> shed.undo());
        restored.answers("changes after restore", 0, CustomsShed::undoCount);
        restored.answers("a change after restore", 0, shed -> shed.deposit(1) - 1 + shed.undo());
        restored.answers("changes after it", 1, shed -> shed.deposit(1) - 1 + shed.undoCount());
        for (int changes = 7; changes <= 10; changes++) {
            CustomsShed shed = Recipes.busy();
            shed.restore();
            for (int change = 0; change < changes; change++) {
                shed.deposit(1);
            }
            check.same("changes after restore", shed.undoCount(), Math.min(changes, 8));
        }
    }

    private static void promise59TheNextId() {
        CustomsShed shed = new CustomsShed();
        shed.addLot('a', 1, 1, 0);
        shed.addLot('b', 1, 1, 1);
        shed.release(1);
        shed.save();
        check.same("the third id", shed.addLot('c', 1, 1, 2), 2);
        check.same("the fourth id", shed.addLot('d', 1, 1, 3), 3);
        check.same("restore", shed.restore(), 1);
        check.same("the third id again", shed.addLot('e', 1, 1, 2), 2);
        shed.restore();
        check.same("the third id once more", shed.addLot('a', 1, 1, 3), 2);
    }

    private static void termsWhatRestoreLeaves() {
        CustomsShed shed = Recipes.busy();
        String output = Trace.output(shed);
        shed.restore();
        check.same("output", Trace.output(shed), output);
        check.same("error position", shed.errorPosition(), 2);
        check.same("failed command", shed.failedCommand(), 1);
        check.same("the buffer goes on", shed.feed('7'), 7);
        check.same("execute of the buffer", shed.execute(), 1);
        check.same("bond 77", shed.bond(), 77);
        CustomsShed saved = Recipes.busy();
        saved.save();
        Recipes.keep(saved, ";");
        saved.writeBays();
        saved.restore();
        check.same("the error position is not saved", saved.errorPosition(), 7);
        check.same("the output is not saved", saved.outputCharacter(0), 'E');
        check.same("the buffer is not saved", saved.feed('d'), 1);
    }
}
