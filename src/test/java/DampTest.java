/** Promises 30 to 36: damp and days. */
public final class DampTest {
    private static final Check check = new Check("DampTest");

    public static void main(String[] args) {
        promise30PassDays();
        promise30OneBayADay();
        promise30DestroyedLotSpreads();
        promise30LeavesTheQueue();
        promise31Day();
        promise32DampCount();
        promise33DampAfter();
        promises34And35Reach();
        promises34And35ReachIsStoppedBySeals();
        promise36DestroyedCount();
        check.finish();
    }

    private static void promise30PassDays() {
        CustomsShed shed = new CustomsShed();
        Sheds.addOpen(shed, 2, 3, true);
        Sheds.addOpen(shed, 2, 4, false);
        shed.addLot('c', 5, 1, 2);
        check.refused("0 days", IllegalArgumentException.class, () -> shed.passDays(0));
        check.refused("-1 days", IllegalArgumentException.class, () -> shed.passDays(-1));
        check.refused("31 days", IllegalArgumentException.class, () -> shed.passDays(31));
        check.same("day after refused calls", shed.day(), 0);
        check.same("one day", shed.passDays(1), 0);
        check.same("bays after one day", Sheds.bays(shed), "..C~~...................");
        check.same("quantity of the damp lot", shed.quantity(0), 1);
        check.same("quantity of the lot that became damp", shed.quantity(1), 2);
        check.same("30 days", shed.passDays(30), 2);
        check.same("bays after 31 days", Sheds.bays(shed), "..C.....................");
        check.same("quantity of the sealed lot", shed.quantity(2), 5);
    }

    private static void promise30OneBayADay() {
        CustomsShed shed = new CustomsShed();
        Sheds.addOpen(shed, 9, 0, true);
        for (int bay = 1; bay < 5; bay++) {
            Sheds.addOpen(shed, 9, bay, false);
        }
        Sheds.addOpen(shed, 9, 6, false);
        Sheds.addOpen(shed, 9, 23, true);
        shed.passDays(1);
        check.same("bays after a day", Sheds.bays(shed), "~~aaa.a................~");
        shed.passDays(2);
        check.same("bays after three days", Sheds.bays(shed), "~~~~a.a................~");
        shed.passDays(5);
        check.same("damp passes no empty bay", Sheds.bays(shed), "~~~~~.a................~");
        CustomsShed down = new CustomsShed();
        Sheds.addOpen(down, 9, 3, false);
        Sheds.addOpen(down, 9, 2, false);
        Sheds.addOpen(down, 9, 4, true);
        down.passDays(1);
        check.same("bays downwards after a day", Sheds.bays(down), "..a~~...................");
    }

    private static void promise30DestroyedLotSpreads() {
        CustomsShed shed = new CustomsShed();
        Sheds.addOpen(shed, 1, 10, true);
        Sheds.addOpen(shed, 1, 11, false);
        Sheds.addOpen(shed, 1, 9, false);
        check.same("one is destroyed", shed.passDays(1), 1);
        check.same("its neighbours are damp", Sheds.bays(shed), ".........~.~............");
        check.same("two more are destroyed", shed.passDays(1), 2);
        check.same("nothing is left", shed.lotCount(), 0);
        check.same("an id after that", shed.addLot('a', 1, 1, 0), 3);
    }

    private static void promise30LeavesTheQueue() {
        CustomsShed shed = new CustomsShed();
        Sheds.addOpen(shed, 1, 0, true);
        Sheds.addOpen(shed, 9, 5, false);
        Sheds.addOpen(shed, 1, 9, true);
        shed.enqueue(0);
        shed.enqueue(1);
        shed.enqueue(2);
        check.same("two are destroyed", shed.passDays(1), 2);
        check.same("queue afterwards", Sheds.queue(shed), "1 ");
    }

    private static void promise31Day() {
        CustomsShed shed = new CustomsShed();
        shed.passDays(30);
        shed.passDays(1);
        check.same("day after passDays", shed.day(), 31);
        Sheds.execute(shed, "day;day");
        check.same("day after commands", shed.day(), 33);
        shed.undo();
        check.same("day after undo", shed.day(), 31);
    }

    private static void promise32DampCount() {
        CustomsShed shed = new CustomsShed();
        check.same("damp lots of none", shed.dampCount(), 0);
        Sheds.addOpen(shed, 9, 0, true);
        Sheds.addOpen(shed, 9, 1, false);
        check.same("damp lots", shed.dampCount(), 1);
        shed.passDays(1);
        check.same("damp lots after a day", shed.dampCount(), 2);
        shed.release(0);
        check.same("damp lots after a release", shed.dampCount(), 1);
    }

    private static void promise33DampAfter() {
        CustomsShed shed = new CustomsShed();
        Sheds.addOpen(shed, 2, 0, true);
        Sheds.addOpen(shed, 9, 1, false);
        Sheds.addOpen(shed, 9, 2, false);
        shed.enqueue(0);
        check.same("damp after 0 days", shed.dampAfter(0), 1);
        check.same("damp after 1 day", shed.dampAfter(1), 2);
        check.same("damp after 2 days", shed.dampAfter(2), 2);
        check.same("damp after 9 days", shed.dampAfter(9), 2);
        check.same("damp after 10 days", shed.dampAfter(10), 1);
        check.same("damp after 11 days", shed.dampAfter(11), 0);
        check.same("damp after 30 days", shed.dampAfter(30), 0);
        check.refused("damp after -1 days", IllegalArgumentException.class, () -> shed.dampAfter(-1));
        check.refused("damp after 31 days", IllegalArgumentException.class, () -> shed.dampAfter(31));
        check.same("bays are not changed", Sheds.bays(shed), "~aa.....................");
        check.same("the day is not changed", shed.day(), 0);
        check.same("nothing is destroyed", shed.destroyedCount(), 0);
        check.same("the queue is not changed", shed.queueLength(), 1);
        check.same("it is no change", shed.undoCount(), 8);
    }

    private static void promises34And35Reach() {
        CustomsShed shed = new CustomsShed();
        reach(shed, 0);
        for (int bay = 0; bay < 6; bay++) {
            Sheds.addOpen(shed, 9, bay, false);
        }
        Sheds.addOpen(shed, 9, 22, false);
        Sheds.addOpen(shed, 9, 23, false);
        reach(shed, 0);
        shed.wet(2);
        reach(shed, 6);
        shed.wet(3);
        shed.wet(5);
        reach(shed, 6);
        shed.wet(7);
        reach(shed, 8);
        shed.move(2, 8);
        reach(shed, 6);
        shed.release(3);
        reach(shed, 5);
    }

    private static void promises34And35ReachIsStoppedBySeals() {
        CustomsShed shed = new CustomsShed();
        for (int bay = 0; bay < 5; bay++) {
            Sheds.addOpen(shed, 9, bay, false);
        }
        shed.seal(2);
        shed.wet(4);
        reach(shed, 2);
        shed.wet(0);
        reach(shed, 4);
        shed.open(2);
        reach(shed, 5);
    }

    private static void reach(CustomsShed shed, int due) {
        check.same("dampReach", shed.dampReach(), due);
        check.same("dampReachByStretches", shed.dampReachByStretches(), due);
    }

    private static void promise36DestroyedCount() {
        CustomsShed shed = new CustomsShed();
        Sheds.addOpen(shed, 1, 0, true);
        Sheds.addOpen(shed, 3, 5, true);
        shed.addLot('a', 1, 1, 9);
        shed.release(2);
        check.same("a released lot is not destroyed", shed.destroyedCount(), 0);
        shed.passDays(1);
        check.same("destroyed after a day", shed.destroyedCount(), 1);
        shed.passDays(2);
        check.same("destroyed after three days", shed.destroyedCount(), 2);
        shed.undo();
        check.same("destroyed after undo", shed.destroyedCount(), 1);
    }
}
