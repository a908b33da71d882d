import java.util.NoSuchElementException;

/** Promises 52 to 55: commands. */
public final class CommandTest {
    private static final Check check = new Check("CommandTest");
    private static final String LONGEST =
            "lot a1*1@0;lot a1*1@1;lot a1*1@2;lot a1*1@3;lot a1*1@4;day;d";

    public static void main(String[] args) {
        promise52Feed();
        promise53EveryCommand();
        promise53OneChange();
        promise53AllOrNone();
        promise53EveryCommandCanFail();
        promise53Numbers();
        promise54ErrorPositionsOfKeywords();
        promise54ErrorPositionsOfNumbers();
        promise54IsKept();
        promise55FailedCommand();
        check.finish();
    }

    private static void promise52Feed() {
        CustomsShed shed = new CustomsShed();
        for (int fed = 1; fed <= 60; fed++) {
            check.same("length of the buffer", shed.feed(fed == 1 ? (char) 0xFFFF : 'x'), fed);
        }
        check.refused("a 61st character", IllegalStateException.class, () -> shed.feed(';'));
        check.refused("execute", IllegalArgumentException.class, () -> shed.execute());
        check.same("the first character was wrong", shed.errorPosition(), 0);
        check.same("the buffer is empty again", shed.feed('d'), 1);
        Sheds.feed(shed, LONGEST.substring(1));
        check.refused("the buffer is as full", IllegalStateException.class, () -> shed.feed('a'));
    }

    private static void promise53EveryCommand() {
        CustomsShed shed = new CustomsShed();
        check.same("lot", Sheds.execute(shed, "lot c5*20@3"), 1);
        check.same("the lot", Sheds.lot(shed, 0), "c5*20@3#");
        check.same("open and move", Sheds.execute(shed, "open 0;move 0@23"), 2);
        check.same("the open lot", Sheds.lot(shed, 0), "c5*20@23");
        check.same("seal", Sheds.execute(shed, "seal 0"), 1);
        check.same("the sealed lot", Sheds.lot(shed, 0), "c5*20@23#");
        check.same("queue", Sheds.execute(shed, "queue 0"), 1);
        check.same("the waiting lot", Sheds.lot(shed, 0), "c5*20@23#?");
        check.same("audit and wet", Sheds.execute(shed, "audit;wet 0"), 2);
        check.same("the damp lot", Sheds.lot(shed, 0), "c5*20@23~");
        check.same("step and bond", Sheds.execute(shed, "step 10=50;bond 100"), 2);
        check.same("threshold", shed.threshold(0), 10);
        check.same("rate", shed.rate(0), 50);
        check.same("bond", shed.bond(), 100);
        check.same("day", Sheds.execute(shed, "day"), 1);
        check.same("the lot after a day", Sheds.lot(shed, 0), "c4*20@23~");
        check.same("release", Sheds.execute(shed, "release 0"), 1);
        check.same("bond after the release", shed.bond(), 65);
        check.same("lots after the release", shed.lotCount(), 0);
        check.same("fifteen days", Sheds.execute(shed, "day;day;day;day;day;day;day;day;day;day;day;day;day;day;day"), 15);
        check.same("day", shed.day(), 16);
    }

    private static void promise53OneChange() {
        CustomsShed shed = new CustomsShed();
        Sheds.execute(shed, "lot a1*1@0;lot b2*2@1;open 1;bond 50");
        check.same("one change", shed.undoCount(), 1);
        check.same("undo of all", shed.undo(), 0);
        check.same("no lots", shed.lotCount(), 0);
        check.same("no bond", shed.bond(), 0);
        check.same("the id is given again", shed.addLot('a', 1, 1, 0), 0);
    }

    private static void promise53AllOrNone() {
        CustomsShed shed = new CustomsShed();
        shed.addLot('a', 1, 1, 0);
        shed.enqueue(0);
        Sheds.feed(shed, "lot b1*1@1;step 5=5;bond 9;audit;day;wet 0;release 0;open 1");
        check.same("all commands", shed.execute(), 8);
        shed.undo();
        Sheds.feed(shed, "lot b1*1@1;step 5=5;bond 9;audit;day;wet 0;release 0;wet 1");
        check.refused("the last command", UnsupportedOperationException.class, () -> shed.execute());
        check.same("its index", shed.failedCommand(), 7);
        check.same("the lot is as before", Sheds.lot(shed, 0), "a1*1@0#?");
        check.same("lots", shed.lotCount(), 1);
        check.same("steps", shed.stepCount(), 0);
        check.same("bond", shed.bond(), 0);
        check.same("day", shed.day(), 0);
        check.same("changes", shed.undoCount(), 2);
        check.same("the buffer is empty", shed.feed('x'), 1);
        check.refused("no malformed text", NoSuchElementException.class, () -> shed.errorPosition());
        check.same("the next id", shed.addLot('b', 1, 1, 1), 1);
    }

    private static void promise53EveryCommandCanFail() {
        String[] failing = {
            "lot a0*1@5", "lot a1*100@5", "lot a1*1@24", "lot a1*1@0", "seal 0", "seal 2", "seal 9",
            "open 1", "open 9", "wet 0", "wet 2", "wet 9", "queue 0", "queue 9", "release 1",
            "release 9", "move 0@0", "move 0@24", "move 9@5", "step 0=1", "step 1=101", "bond 0",
            "bond 1000",
        };
        CustomsShed shed = new CustomsShed();
        shed.addStep(0, 100);
        shed.addLot('a', 1, 1, 0);
        Sheds.addOpen(shed, 9, 2, false);
        Sheds.addOpen(shed, 9, 4, true);
        shed.enqueue(0);
        for (String command : failing) {
            Sheds.feed(shed, command + ";day");
            check.refused(command, UnsupportedOperationException.class, () -> shed.execute());
        }
        check.same("no day has passed", shed.day(), 0);
        Sheds.feed(shed, "audit;audit");
        check.refused("audit of nothing", UnsupportedOperationException.class, () -> shed.execute());
        check.same("the second audit", shed.failedCommand(), 1);
        check.same("the queue is as before", shed.queueLength(), 1);
    }

    private static void promise53Numbers() {
        CustomsShed shed = new CustomsShed();
        check.same("zeros in front", Sheds.execute(shed, "lot a0007*099@0023;step 9999=0100"), 2);
        check.same("the lot", Sheds.lot(shed, 0), "a7*99@23#");
        check.same("threshold", shed.threshold(0), 9999);
        check.same("rate", shed.rate(0), 100);
        check.same("bond", Sheds.execute(shed, "bond 999;bond 0001"), 2);
        check.same("coins", shed.bond(), 1000);
    }

    private static void promise54ErrorPositionsOfKeywords() {
        malformed("", 0);
        malformed(" ", 0);
        malformed(";", 0);
        malformed("x", 0);
        malformed("Day", 0);
        malformed("d", 1);
        malformed("daY", 2);
        malformed("da", 2);
        malformed("days", 3);
        malformed("day;", 4);
        malformed("day;;day", 4);
        malformed("day; day", 4);
        malformed("day day", 3);
        malformed("s", 1);
        malformed("sx", 1);
        malformed("se", 2);
        malformed("st", 2);
        malformed("stal 0", 2);
        malformed("seal0", 4);
        malformed("audi", 4);
        malformed("audit ", 5);
        malformed("audit;aux", 8);
        malformed("lot", 3);
        malformed("lotc", 3);
        malformed("release", 7);
        malformed("releases 0", 7);
        malformed("queeu 0", 3);
        malformed("mend", 1);
        malformed("wet\t0", 3);
        malformed("ope", 3);
        malformed("bond", 4);
        malformed("lot " + (char) (256 + 'a') + "1*1@0", 4);
    }

    private static void promise54ErrorPositionsOfNumbers() {
        malformed("lot ", 4);
        malformed("lot f1*1@0", 4);
        malformed("lot A1*1@0", 4);
        malformed("lot c", 5);
        malformed("lot c*", 5);
        malformed("lot c5", 6);
        malformed("lot c5@", 6);
        malformed("lot c5*", 7);
        malformed("lot c5*20", 9);
        malformed("lot c5*20*", 9);
        malformed("lot c5*20@", 10);
        malformed("lot c5*20@ 3", 10);
        malformed("lot c12345*1@0", 9);
        malformed("lot c5*20@3@", 11);
        malformed("seal ", 5);
        malformed("seal -1", 5);
        malformed("seal 12345", 9);
        malformed("seal 1234 ", 9);
        malformed("seal  1", 5);
        malformed("seal " + (char) (256 + '1'), 5);
        malformed("seal /", 5);
        malformed("seal :", 5);
        malformed("move 0", 6);
        malformed("move 0=1", 6);
        malformed("move 0@", 7);
        malformed("step 5", 6);
        malformed("step 5@5", 6);
        malformed("step 5=", 7);
        malformed("step 5=#", 7);
        malformed("bond #", 5);
        malformed("bond 1,day", 6);
        malformed("lot %1*1@0", 4);
        malformed("day;bond 1;x", 11);
        malformed(LONGEST, 60);
    }

    private static void malformed(String text, int due) {
        CustomsShed shed = new CustomsShed();
        shed.addLot('a', 1, 1, 0);
        Sheds.feed(shed, text);
        check.refused("execute of " + text, IllegalArgumentException.class, () -> shed.execute());
        check.same("error position of " + text, shed.errorPosition(), due);
        check.same("day after " + text, shed.day(), 0);
        check.same("changes after " + text, shed.undoCount(), 1);
        check.same("buffer after " + text, shed.feed('x'), 1);
        check.refused("no failed command", NoSuchElementException.class, () -> shed.failedCommand());
    }

    private static void promise54IsKept() {
        CustomsShed shed = new CustomsShed();
        check.refused("none at first", NoSuchElementException.class, () -> shed.errorPosition());
        shed.save();
        Sheds.feed(shed, "dax");
        check.refused("execute", IllegalArgumentException.class, () -> shed.execute());
        Sheds.execute(shed, "day");
        check.same("kept after a well-formed text", shed.errorPosition(), 2);
        shed.undo();
        check.same("kept after undo", shed.errorPosition(), 2);
        shed.restore();
        check.same("kept after restore", shed.errorPosition(), 2);
        check.refused("execute of nothing", IllegalArgumentException.class, () -> shed.execute());
        check.same("replaced", shed.errorPosition(), 0);
    }

    private static void promise55FailedCommand() {
        CustomsShed shed = new CustomsShed();
        check.refused("none at first", NoSuchElementException.class, () -> shed.failedCommand());
        shed.save();
        Sheds.feed(shed, "day;day;seal 0;seal 1");
        check.refused("execute", UnsupportedOperationException.class, () -> shed.execute());
        check.same("the first that failed", shed.failedCommand(), 2);
        Sheds.execute(shed, "day");
        check.same("kept after a good text", shed.failedCommand(), 2);
        shed.undo();
        shed.restore();
        check.same("kept after undo and restore", shed.failedCommand(), 2);
        check.refused("execute of nothing", IllegalArgumentException.class, () -> shed.execute());
        check.same("kept after a malformed text", shed.failedCommand(), 2);
        Sheds.feed(shed, "audit");
        check.refused("execute audit", UnsupportedOperationException.class, () -> shed.execute());
        check.same("replaced", shed.failedCommand(), 0);
    }
}
