import java.util.function.Consumer;

/** Promises 52 to 55 and the terms of commands: each sentence that names an edge. */
public final class CommandEdgesTest {
    private static final Check check = new Check("CommandEdgesTest");
    private static final Edges fresh = new Edges(check, CustomsShed::new);
    private static final Edges idle = new Edges(check, Recipes::idle);

    public static void main(String[] args) {
        promise52SixtyCharacters();
        promise52AnyCharacter();
        promise53SixtyCharacters();
        promise53EmptyAfterwards();
        promise53CommandsAreCalls();
        promise53CommandsInTheirOrder();
        promise53MalformedChangesNothing();
        promise53FailedChangesNothing();
        promise53EachWayToFail();
        promise53FullSheds();
        promise53MalformedDecides();
        promise54NoneKept();
        promise54KeptLast();
        promise55NoneKept();
        promise55KeptLast();
        check.finish();
    }

    private static CustomsShed fed(int characters) {
        CustomsShed shed = Recipes.idle();
        Sheds.feed(shed, "day;".repeat(15).substring(0, characters));
        return shed;
    }

    private static void promise52SixtyCharacters() {
        fresh.answers("the first character", 1, shed -> shed.feed('d'));
        new Edges(check, () -> fed(58)).answers("the 59th character", 59, shed -> shed.feed('y'));
        new Edges(check, () -> fed(59)).answers("the 60th character", 60, shed -> shed.feed(';'));
        Edges sixty = new Edges(check, () -> fed(60));
        for (char character : new char[] {';', 'd', ' ', 0, 65535}) {
            sixty.refuses("a 61st character", Edges.STATE, shed -> shed.feed(character));
        }
        new Edges(check, () -> fed(59)).answers("the 59 characters are a text", 15, shed -> shed.execute());
        CustomsShed shed = fed(60);
        check.refused("a 61st character", Edges.STATE, () -> shed.feed('d'));
        check.refused("it is not in the text", Edges.ARGUMENT, () -> shed.execute());
        check.same("which ends too early", shed.errorPosition(), 60);
        for (int length = 1; length <= 60; length++) {
            check.same("length", shed.feed('d'), length);
        }
        check.refused("a 61st again", Edges.STATE, () -> shed.feed('d'));
    }

    private static void promise52AnyCharacter() {
        for (int character = 0; character < 65536; character += character < 300 ? 1 : 3257) {
            char one = (char) character;
            fresh.answers("feed of " + character, 1, shed -> shed.feed(one));
        }
        fresh.answers("feed of the last character", 1, shed -> shed.feed((char) 65535));
    }

    private static void promise53SixtyCharacters() {
        CustomsShed shed = new CustomsShed();
        shed.addLot('a', 1, 1, 0);
        Sheds.feed(shed, "day;".repeat(13) + "move 0@1");
        check.refused("a 61st character", Edges.STATE, () -> shed.feed('2'));
        check.same("execute of 60 characters", shed.execute(), 14);
        check.same("the last command", shed.bay(0), 1);
        check.same("the days", shed.day(), 13);
        check.same("one command", Sheds.execute(shed, "day"), 1);
        check.same("two commands", Sheds.execute(shed, "day;day"), 2);
        check.same("fifteen commands", Sheds.execute(shed, "day;".repeat(14) + "day"), 15);
        check.same("all are done", shed.day(), 31);
        check.same("each text is one change", shed.undoCount(), 5);
    }

    private static void promise53EmptyAfterwards() {
        String[] texts = {"day", "", "x", "day;", "seal 3", "bond 1;bond 0", "day;".repeat(15)};
        for (String text : texts) {
            CustomsShed shed = Recipes.idle();
            Sheds.feed(shed, text);
            Trace.answer(shed::execute);
            check.same("buffer after \"" + text + "\"", shed.feed('d'), 1);
            shed.feed('a');
            check.same("buffer after two more", shed.feed('y'), 3);
            check.same("execute of them", shed.execute(), 1);
            check.refused("execute of nothing", Edges.ARGUMENT, () -> shed.execute());
            check.same("its error position", shed.errorPosition(), 0);
        }
    }

    /** A text of one command leaves the shed as the call of its method does. */
    private static void promise53CommandsAreCalls() {
        alike("lot b7*8@9", shed -> shed.addLot('b', 7, 8, 9));
        alike("lot a1*1@23", shed -> shed.addLot('a', 1, 1, 23));
        alike("lot e99*99@1", shed -> shed.addLot('e', 99, 99, 1));
        alike("lot c0099*0001@0010", shed -> shed.addLot('c', 99, 1, 10));
        alike("seal 1", shed -> shed.seal(1));
        alike("seal 0006", shed -> shed.seal(6));
        alike("open 0", shed -> shed.open(0));
        alike("open 04", shed -> shed.open(4));
        alike("wet 1", shed -> shed.wet(1));
        alike("wet 006", shed -> shed.wet(6));
        alike("queue 0", shed -> shed.enqueue(0));
        alike("queue 02", shed -> shed.enqueue(2));
        alike("release 0", shed -> shed.release(0));
        alike("release 2", shed -> shed.release(2));
        alike("release 0004", shed -> shed.release(4));
        alike("move 1@9", shed -> shed.move(1, 9));
        alike("move 4@23", shed -> shed.move(4, 23));
        alike("move 01@0011", shed -> shed.move(1, 11));
        alike("audit", shed -> shed.audit());
        alike("step 7=77", shed -> shed.addStep(7, 77));
        alike("step 9999=100", shed -> shed.addStep(9999, 100));
        alike("step 0001=0000", shed -> shed.addStep(1, 0));
        alike("bond 1", shed -> shed.deposit(1));
        alike("bond 999", shed -> shed.deposit(999));
        alike("bond 0042", shed -> shed.deposit(42));
        alike("day", shed -> shed.passDays(1));
    }

    private static void alike(String text, Consumer<CustomsShed> call) {
        String due = Trace.of(() -> after(Recipes.idle(), call));
        String got = Trace.of(() -> after(Recipes.idle(), shed -> Sheds.execute(shed, text)));
        check.same("trace of " + text, got, due);
        idle.answers("commands of " + text, 1, shed -> Sheds.execute(shed, text));
        idle.answers("changes after " + text, 8, shed -> Sheds.execute(shed, text) - 1 + shed.undoCount());
        idle.answers("undo of " + text, 7, shed -> Sheds.execute(shed, text) - 1 + shed.undo());
    }

    private static CustomsShed after(CustomsShed shed, Consumer<CustomsShed> call) {
        call.accept(shed);
        return shed;
    }

    private static void promise53CommandsInTheirOrder() {
        CustomsShed shed = new CustomsShed();
        check.same("a lot's life", Sheds.execute(shed, "lot a2*1@1;open 0;wet 0;queue 0;audit;day;release 0"), 7);
        check.same("it has left", shed.lotCount(), 0);
        check.same("the next id", Sheds.execute(shed, "lot a1*1@1;open 1;wet 1;day"), 4);
        check.same("it is destroyed", shed.destroyedCount(), 1);
        Sheds.feed(shed, "seal 2;lot a1*1@1");
        check.refused("a command ahead of what it needs", Edges.UNSUPPORTED, () -> shed.execute());
        check.same("the failed command", shed.failedCommand(), 0);
        check.same("step and bond", Sheds.execute(shed, "lot b50*2@1;open 2;step 0=50;bond 50;release 2"), 5);
        check.same("the bond", shed.bond(), 0);
        check.same("collected", shed.collected(), 50);
        check.same("three texts are three changes", shed.undoCount(), 3);
        shed.undo();
        check.same("undo of a whole text", Trace.look(shed), "queue day 2 damp 0 reach 0 destroyed 1 bond 0"
                + " collected 0 duty 0 releases 0 consistent true changes 2"
                + " error position NoSuchElementException failed command 0 ");
        check.same("the id is given again", shed.addLot('a', 1, 1, 0), 2);
    }

    private static void malformed(String text, int due) {
        Edges kept = new Edges(check, () -> Recipes.idle(text, 1));
        kept.answers("error position of " + text, due, shed -> shed.errorPosition());
        kept.refuses("execute of " + text, Edges.ARGUMENT, shed -> Sheds.execute(shed, text));
    }

    private static void promise53MalformedChangesNothing() {
        malformed("", 0);
        malformed("x", 0);
        malformed("bond 5;", 7);
        malformed("bond 5;x", 7);
        malformed("bond 5;;bond 5", 7);
        malformed("bond 5 ;bond 5", 6);
        malformed("bond 5; bond 5", 7);
        malformed("lot a1*1@1;open 7;wet 7;step 1=1;audit;da", 41);
        malformed("release 0;release 2;queue 6;move 1@9;day.", 40);
        malformed("bond 12345", 9);
        malformed("Bond 5", 0);
        malformed("day;".repeat(15), 60);
        malformed("day;".repeat(14) + "days", 59);
    }

    private static void fails(String text, int command) {
        Edges kept = new Edges(check, () -> Recipes.idle("dax", command));
        kept.answers("failed command of " + text, command, shed -> shed.failedCommand());
        kept.refuses("execute of " + text, Edges.UNSUPPORTED, shed -> Sheds.execute(shed, text));
    }

    /** Whatever the commands ahead of the failed one have changed is as before, too. */
    private static void promise53FailedChangesNothing() {
        String[] changes = {
            "lot a1*1@1", "seal 1", "open 0", "wet 1", "queue 0", "release 0", "release 2", "move 1@9",
            "audit", "step 7=77", "bond 999", "day",
        };
        for (String change : changes) {
            fails(change + ";seal 3", 1);
            fails(change + ";seal 3;day", 1);
            fails(change + ";bond 0;seal 3", 1);
            fails("day;" + change + ";move 8@1", 2);
        }
        fails("wet 2", 0);
        fails("wet 2;day", 0);
        for (int command = 0; command <= 13; command++) {
            fails("day;".repeat(command) + "wet 3", command);
        }
    }

    private static void promise53EachWayToFail() {
        String[] failing = {
            "lot a0*1@1", "lot a100*1@1", "lot a1*0@1", "lot a1*100@1", "lot a9999*9999@1", "lot a1*1@24",
            "lot a1*1@9999", "lot a1*1@0", "lot a1*1@5", "seal 3", "seal 5", "seal 7", "seal 9999", "seal 0",
            "seal 2", "open 3", "open 7", "open 1", "open 2", "wet 3", "wet 7", "wet 0", "wet 2", "queue 3",
            "queue 7", "queue 4", "queue 1", "release 3", "release 7", "release 1", "move 3@1", "move 7@1",
            "move 1@24", "move 1@9999", "move 1@5", "move 1@0", "step 100=1", "step 0=1", "step 1=101",
            "step 9999=9999", "bond 0", "bond 1000", "bond 9999", "bond 0000",
        };
        for (String command : failing) {
            fails(command, 0);
            fails("day;" + command, 1);
            fails("bond 1;bond 1;" + command + ";day", 2);
        }
        fails("audit;audit;audit", 2);
    }

    private static void failsThere(CustomsShed shed, String text, int command) {
        String before = Trace.look(shed).split("error position")[0];
        Sheds.feed(shed, text);
        check.refused(text, Edges.UNSUPPORTED, () -> shed.execute());
        check.same("failed command of " + text, shed.failedCommand(), command);
        check.same("look after " + text, Trace.look(shed).split("error position")[0], before);
    }

    private static void promise53FullSheds() {
        failsThere(Recipes.full(0), "lot a1*1@16", 0);
        failsThere(Recipes.full(0), "release 3;lot a1*1@3;lot a1*1@16", 2);
        check.same("a 16th lot", Sheds.execute(Recipes.full(0), "release 3;lot a1*1@3"), 2);
        failsThere(Recipes.sixSteps(), "step 5=5", 0);
        failsThere(Recipes.sixSteps(), "day;step 50=5", 1);
        failsThere(Recipes.withBond(9999), "bond 1", 0);
        failsThere(Recipes.withBond(9998), "bond 1;bond 1", 1);
        check.same("a bond of 9999", Sheds.execute(Recipes.withBond(9998), "bond 1"), 1);
        failsThere(Recipes.waiting(), "queue 0", 0);
        failsThere(Recipes.waiting(), "audit;queue 15;queue 15", 2);
        failsThere(new CustomsShed(), "audit", 0);
        CustomsShed shed = Recipes.withBond(9);
        shed.addStep(0, 100);
        Sheds.addOpen(shed, 10, 0, false);
        failsThere(shed, "release 0", 0);
        check.same("release at just the bond", Sheds.execute(shed, "bond 1;release 0"), 2);
    }

    /** A text that is malformed and whose commands would fail is malformed. */
    private static void promise53MalformedDecides() {
        malformed("seal 3;x", 7);
        malformed("seal 3;", 7);
        malformed("audit;audit;audit;audi", 22);
        CustomsShed shed = new CustomsShed();
        Recipes.keep(shed, "seal 0;x");
        check.refused("no failed command is kept", Edges.NO_ELEMENT, () -> shed.failedCommand());
        check.same("the error position is kept", shed.errorPosition(), 7);
    }

    private static void promise54NoneKept() {
        fresh.refuses("errorPosition at first", Edges.NO_ELEMENT, shed -> shed.errorPosition());
        CustomsShed shed = new CustomsShed();
        Sheds.execute(shed, "bond 5;day");
        check.refused("errorPosition after a good text", Edges.NO_ELEMENT, () -> shed.errorPosition());
        Recipes.keep(shed, "audit");
        check.refused("errorPosition after a failed text", Edges.NO_ELEMENT, () -> shed.errorPosition());
        Sheds.feed(shed, "xyz");
        check.refused("errorPosition ahead of execute", Edges.NO_ELEMENT, () -> shed.errorPosition());
        Trace.answer(shed::execute);
        check.same("error position 0 is one", shed.errorPosition(), 0);
        check.same("it is kept", shed.errorPosition(), 0);
    }

    private static void promise54KeptLast() {
        CustomsShed shed = new CustomsShed();
        String[] texts = {"day;".repeat(15), "bond ", "", "bond 5", "audit", "seal 12345"};
        int[] due = {60, 5, 0, 0, 0, 9};
        for (int text = 0; text < texts.length; text++) {
            Sheds.feed(shed, texts[text]);
            Trace.answer(shed::execute);
            check.same("error position after \"" + texts[text] + "\"", shed.errorPosition(), due[text]);
        }
        shed.undo();
        check.same("after undo", shed.errorPosition(), 9);
        shed.save();
        Recipes.keep(shed, "day;x");
        check.same("after another one", shed.errorPosition(), 4);
        shed.restore();
        check.same("after restore", shed.errorPosition(), 4);
    }

    private static void promise55NoneKept() {
        fresh.refuses("failedCommand at first", Edges.NO_ELEMENT, shed -> shed.failedCommand());
        CustomsShed shed = new CustomsShed();
        Sheds.execute(shed, "bond 5;day");
        check.refused("failedCommand after a good text", Edges.NO_ELEMENT, () -> shed.failedCommand());
        Recipes.keep(shed, "audit;x");
        check.refused("failedCommand after a malformed text", Edges.NO_ELEMENT, () -> shed.failedCommand());
        Trace.answer(shed::audit);
        check.refused("failedCommand after a refused call", Edges.NO_ELEMENT, () -> shed.failedCommand());
        Recipes.keep(shed, "audit");
        check.same("failed command 0 is one", shed.failedCommand(), 0);
        check.same("it is kept", shed.failedCommand(), 0);
    }

    private static void promise55KeptLast() {
        CustomsShed shed = new CustomsShed();
        String[] texts = {"day;".repeat(13) + "audit", "bond 5", "x", "day;day;bond 0;audit", "audit"};
        int[] due = {13, 13, 13, 2, 0};
        for (int text = 0; text < texts.length; text++) {
            Sheds.feed(shed, texts[text]);
            Trace.answer(shed::execute);
            check.same("failed command after \"" + texts[text] + "\"", shed.failedCommand(), due[text]);
        }
        shed.undo();
        check.same("after undo", shed.failedCommand(), 0);
        shed.save();
        Recipes.keep(shed, "day;audit");
        check.same("after another one", shed.failedCommand(), 1);
        shed.restore();
        check.same("after restore", shed.failedCommand(), 1);
    }
}
