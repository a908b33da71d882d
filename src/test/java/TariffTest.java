import java.util.NoSuchElementException;

/** Promises 20 to 29: the tariff. */
public final class TariffTest {
    private static final Check check = new Check("TariffTest");

    public static void main(String[] args) {
        promise20AddStep();
        promise20AddStepOrderOfExceptions();
        promise21RemoveStep();
        promises22To24Steps();
        promises25And26DutyOn();
        promises25And26Agree();
        promise27Duty();
        promises28And29TotalDuty();
        check.finish();
    }

    private static void promise20AddStep() {
        CustomsShed shed = new CustomsShed();
        check.same("first step", shed.addStep(100, 10), 1);
        check.same("step with the lowest threshold", shed.addStep(0, 0), 2);
        check.same("step with the highest threshold", shed.addStep(9999, 100), 3);
        check.refused("threshold -1", IllegalArgumentException.class, () -> shed.addStep(-1, 5));
        check.refused("threshold 10000", IllegalArgumentException.class, () -> shed.addStep(10000, 5));
        check.refused("rate -1", IllegalArgumentException.class, () -> shed.addStep(5, -1));
        check.refused("rate 101", IllegalArgumentException.class, () -> shed.addStep(5, 101));
        check.refused("the same threshold", UnsupportedOperationException.class, () -> shed.addStep(100, 20));
        check.same("steps after refused calls", shed.stepCount(), 3);
        check.same("rate after refused calls", shed.rate(1), 10);
        check.same("changes after refused calls", shed.undoCount(), 3);
    }

    private static void promise20AddStepOrderOfExceptions() {
        CustomsShed shed = new CustomsShed();
        for (int step = 0; step < 6; step++) {
            shed.addStep(step * 10, step);
        }
        check.refused("a seventh step", IllegalStateException.class, () -> shed.addStep(5, 1));
        check.refused("a seventh step, a second time", UnsupportedOperationException.class, () -> shed.addStep(50, 1));
        check.refused("a seventh step, wrong", IllegalArgumentException.class, () -> shed.addStep(50, 101));
        shed.removeStep(30);
        check.same("a sixth step again", shed.addStep(5, 1), 6);
    }

    private static void promise21RemoveStep() {
        CustomsShed shed = new CustomsShed();
        shed.addStep(10, 1);
        shed.addStep(20, 2);
        shed.addStep(30, 3);
        check.same("remove the middle one", shed.removeStep(20), 2);
        check.same("steps afterwards", shed.stepCount(), 2);
        check.same("threshold afterwards", shed.threshold(1), 30);
        check.same("rate afterwards", shed.rate(1), 3);
        check.refused("remove it again", NoSuchElementException.class, () -> shed.removeStep(20));
        check.refused("remove by an index", NoSuchElementException.class, () -> shed.removeStep(0));
        check.refused("remove step -1", NoSuchElementException.class, () -> shed.removeStep(-1));
        check.same("remove the last", shed.removeStep(30), 3);
        check.same("remove the first", shed.removeStep(10), 1);
        check.refused("remove from nothing", NoSuchElementException.class, () -> shed.removeStep(10));
    }

    private static void promises22To24Steps() {
        CustomsShed shed = new CustomsShed();
        check.refused("threshold without steps", IndexOutOfBoundsException.class, () -> shed.threshold(0));
        int[] thresholds = {500, 20, 9000, 0, 700, 30};
        for (int step = 0; step < 6; step++) {
            shed.addStep(thresholds[step], step + 40);
        }
        check.same("steps", shed.stepCount(), 6);
        int[] dueThresholds = {0, 20, 30, 500, 700, 9000};
        int[] dueRates = {43, 41, 45, 40, 44, 42};
        for (int step = 0; step < 6; step++) {
            check.same("threshold " + step, shed.threshold(step), dueThresholds[step]);
            check.same("rate " + step, shed.rate(step), dueRates[step]);
        }
        check.refused("threshold 6", IndexOutOfBoundsException.class, () -> shed.threshold(6));
        check.refused("threshold -1", IndexOutOfBoundsException.class, () -> shed.threshold(-1));
        check.refused("rate 6", IndexOutOfBoundsException.class, () -> shed.rate(6));
        check.refused("rate -1", IndexOutOfBoundsException.class, () -> shed.rate(-1));
    }

    private static void promises25And26DutyOn() {
        CustomsShed shed = new CustomsShed();
        duty(shed, 9999, 0);
        shed.addStep(100, 10);
        shed.addStep(200, 50);
        shed.addStep(1000, 100);
        duty(shed, 0, 0);
        duty(shed, 100, 0);
        duty(shed, 109, 0);
        duty(shed, 110, 1);
        duty(shed, 200, 10);
        duty(shed, 201, 10);
        duty(shed, 202, 11);
        duty(shed, 1000, 410);
        duty(shed, 1001, 411);
        duty(shed, 9999, 9409);
        check.refused("dutyOn(-1)", IllegalArgumentException.class, () -> shed.dutyOn(-1));
        check.refused("dutyOn(10000)", IllegalArgumentException.class, () -> shed.dutyOn(10000));
        check.refused("dutyOnByCoins(-1)", IllegalArgumentException.class, () -> shed.dutyOnByCoins(-1));
        check.refused("dutyOnByCoins(10000)", IllegalArgumentException.class, () -> shed.dutyOnByCoins(10000));
        shed.removeStep(200);
        shed.addStep(300, 5);
        duty(shed, 500, 30);
        shed.addStep(0, 100);
        duty(shed, 1, 1);
        duty(shed, 500, 130);
    }

    private static void duty(CustomsShed shed, int value, int due) {
        check.same("dutyOn(" + value + ")", shed.dutyOn(value), due);
        check.same("dutyOnByCoins(" + value + ")", shed.dutyOnByCoins(value), due);
    }

    /** Rounded down once, after the sum of all parts, not part by part. */
    private static void promises25And26Agree() {
        CustomsShed shed = new CustomsShed();
        shed.addStep(0, 50);
        shed.addStep(1, 50);
        shed.addStep(9998, 33);
        shed.addStep(9999, 99);
        duty(shed, 2, 1);
        duty(shed, 3, 1);
        for (int value = 0; value <= 9999; value += 101) {
            check.same("both duties on " + value, shed.dutyOn(value), shed.dutyOnByCoins(value));
        }
        duty(shed, 9999, 4999);
    }

    private static void promise27Duty() {
        CustomsShed shed = new CustomsShed();
        shed.addStep(50, 20);
        shed.addLot('a', 10, 30, 0);
        check.same("duty of a sealed lot", shed.duty(0), 0);
        shed.open(0);
        check.same("duty of an open lot", shed.duty(0), 50);
        shed.wet(0);
        check.same("duty of a damp lot", shed.duty(0), 50);
        shed.passDays(1);
        check.same("duty of a smaller lot", shed.duty(0), 44);
        check.refused("duty of lot 1", NoSuchElementException.class, () -> shed.duty(1));
        check.refused("duty of lot -1", NoSuchElementException.class, () -> shed.duty(-1));
    }

    private static void promises28And29TotalDuty() {
        CustomsShed shed = new CustomsShed();
        shed.addStep(0, 50);
        total(shed, 0);
        shed.addLot('a', 11, 1, 23);
        shed.addLot('a', 3, 1, 0);
        shed.addLot('a', 99, 99, 12);
        total(shed, 0);
        shed.open(0);
        total(shed, 5);
        shed.open(1);
        total(shed, 6);
        shed.open(2);
        total(shed, 4906);
        shed.seal(1);
        total(shed, 4905);
    }

    private static void total(CustomsShed shed, int due) {
        check.same("totalDuty", shed.totalDuty(), due);
        check.same("totalDutyByBays", shed.totalDutyByBays(), due);
    }
}
