/** Promises 20 to 29 and the terms of the tariff: each sentence that names an edge. */
public final class TariffEdgesTest {
    private static final Check check = new Check("TariffEdgesTest");
    private static final Edges fresh = new Edges(check, CustomsShed::new);
    private static final Edges busy = new Edges(check, Recipes::busy);
    private static final Edges sixSteps = new Edges(check, Recipes::sixSteps);

    public static void main(String[] args) {
        promise20NoSuchThresholdOrRate();
        promise20SameThreshold();
        promise20SixSteps();
        promise20FirstConditionDecides();
        promise20EveryOrderOfSteps();
        promise21NoSuchStep();
        promise21RemovesOneStep();
        promises22To24Steps();
        promises25And26NoSuchValue();
        termsPartsUpToAThreshold();
        termsRoundedDownOnce();
        termsNeighbouringThresholds();
        termsHighestThreshold();
        promises25And26AgreeEverywhere();
        promise27NoSuchLot();
        promise27SealedLots();
        promises28And29Sums();
        promises28And29GreatestSum();
        check.finish();
    }

    private static void promise20NoSuchThresholdOrRate() {
        busy.refusesNumbers("addStep with a threshold", 0, 9999, (shed, number) -> shed.addStep(number, 5));
        busy.refusesNumbers("addStep with a rate", 0, 100, (shed, number) -> shed.addStep(5, number));
        for (int threshold : new int[] {1, 99, 101, 9998, 9999}) {
            busy.answers("addStep of " + threshold, 3, shed -> shed.addStep(threshold, 5));
        }
        for (int threshold : new int[] {0, 1, 9998, 9999}) {
            fresh.answers("threshold " + threshold, 1 + threshold, shed -> shed.addStep(threshold, 5) + shed.threshold(0));
        }
        for (int rate : new int[] {0, 1, 99, 100}) {
            fresh.answers("rate " + rate, 1 + rate, shed -> shed.addStep(9, rate) + shed.rate(0));
        }
    }

    private static void promise20SameThreshold() {
        for (int threshold : new int[] {0, 100}) {
            busy.refuses("a second " + threshold, Edges.UNSUPPORTED, shed -> shed.addStep(threshold, 7));
            busy.refuses("a second " + threshold + " alike", Edges.UNSUPPORTED,
                    shed -> shed.addStep(threshold, threshold == 0 ? 10 : 50));
        }
        busy.answers("a threshold that was removed", 2, shed -> shed.removeStep(100) - 50 + shed.addStep(100, 7));
        busy.answers("the same rate", 3, shed -> shed.addStep(50, 10));
        fresh.answers("a threshold that was undone", 1, shed -> shed.addStep(5, 5) - 1 + shed.undo() + shed.addStep(5, 5));
    }

    private static void promise20SixSteps() {
        for (int threshold : new int[] {5, 15, 45, 51, 9999}) {
            sixSteps.refuses("a seventh step", Edges.STATE, shed -> shed.addStep(threshold, 1));
        }
        CustomsShed shed = new CustomsShed();
        for (int steps = 1; steps <= 6; steps++) {
            check.same("steps", shed.addStep(steps, steps), steps);
        }
        for (int step = 0; step < 6; step++) {
            int removed = 10 * step;
            sixSteps.answers("a sixth step again", step + 7, one -> one.removeStep(removed) + one.addStep(55, 1));
        }
    }

    private static void promise20FirstConditionDecides() {
        for (int rate : new int[] {-1, 101}) {
            busy.refuses("no rate, the same threshold", Edges.ARGUMENT, shed -> shed.addStep(100, rate));
            sixSteps.refuses("no rate, six steps", Edges.ARGUMENT, shed -> shed.addStep(5, rate));
            sixSteps.refuses("no rate, the same, six steps", Edges.ARGUMENT, shed -> shed.addStep(50, rate));
        }
        for (int threshold : new int[] {-1, 10000}) {
            sixSteps.refuses("no threshold, six steps", Edges.ARGUMENT, shed -> shed.addStep(threshold, 1));
        }
        for (int step = 0; step < 6; step++) {
            int threshold = 10 * step;
            sixSteps.refuses("the same, six steps", Edges.UNSUPPORTED, shed -> shed.addStep(threshold, 1));
        }
    }

    private static void promise20EveryOrderOfSteps() {
        int[] order = new int[4];
        for (int code = 0; code < 256; code++) {
            boolean isOrder = true;
            for (int place = 0; place < 4; place++) {
                order[place] = code >> 2 * place & 3;
                for (int other = 0; other < place; other++) {
                    isOrder = isOrder && order[other] != order[place];
                }
            }
            if (isOrder) {
                steps(order);
            }
        }
    }

    private static void steps(int[] order) {
        CustomsShed shed = new CustomsShed();
        for (int step : order) {
            shed.addStep(1000 * step, 20 + step);
        }
        for (int step = 0; step < 4; step++) {
            check.same("threshold " + step, shed.threshold(step), 1000 * step);
            check.same("rate " + step, shed.rate(step), 20 + step);
        }
    }

    private static void promise21NoSuchStep() {
        for (int threshold : new int[] {-1, 1, 2, 10, 50, 99, 101, 9999, 10000, Integer.MIN_VALUE, Integer.MAX_VALUE}) {
            busy.refuses("removeStep of " + threshold, Edges.NO_ELEMENT, shed -> shed.removeStep(threshold));
        }
        fresh.refuses("removeStep without steps", Edges.NO_ELEMENT, shed -> shed.removeStep(0));
        Edges removed = new Edges(check, TariffEdgesTest::withoutTheLastStep);
        removed.refuses("removeStep again", Edges.NO_ELEMENT, shed -> shed.removeStep(50));
        removed.refusesIndexesBeyond("threshold after it", 5, (shed, step) -> shed.threshold(step));
        removed.refusesIndexesBeyond("rate after it", 5, (shed, step) -> shed.rate(step));
    }

    private static CustomsShed withoutTheLastStep() {
        CustomsShed shed = Recipes.sixSteps();
        shed.removeStep(50);
        return shed;
    }

    private static void promise21RemovesOneStep() {
        for (int step = 0; step < 6; step++) {
            CustomsShed shed = Recipes.sixSteps();
            check.same("removeStep", shed.removeStep(10 * step), step + 1);
            check.same("steps after it", shed.stepCount(), 5);
            for (int left = 0; left < 5; left++) {
                int was = left < step ? left : left + 1;
                check.same("threshold " + left + " after it", shed.threshold(left), 10 * was);
                check.same("rate " + left + " after it", shed.rate(left), was + 1);
            }
        }
        fresh.answers("removeStep of a rate of 0", 0, shed -> shed.addStep(9999, 0) - 1 + shed.removeStep(9999));
        fresh.answers("removeStep of a rate of 100", 100, shed -> shed.addStep(0, 100) - 1 + shed.removeStep(0));
    }

    private static void promises22To24Steps() {
        fresh.refusesIndexesBeyond("threshold without steps", 0, (shed, step) -> shed.threshold(step));
        fresh.refusesIndexesBeyond("rate without steps", 0, (shed, step) -> shed.rate(step));
        busy.refusesIndexesBeyond("threshold", 2, (shed, step) -> shed.threshold(step));
        busy.refusesIndexesBeyond("rate", 2, (shed, step) -> shed.rate(step));
        sixSteps.refusesIndexesBeyond("threshold of six", 6, (shed, step) -> shed.threshold(step));
        sixSteps.refusesIndexesBeyond("rate of six", 6, (shed, step) -> shed.rate(step));
        fresh.answers("no steps", 0, CustomsShed::stepCount);
        busy.answers("two steps", 2, CustomsShed::stepCount);
        sixSteps.answers("six steps", 6, CustomsShed::stepCount);
        sixSteps.answers("the first threshold", 0, shed -> shed.threshold(0));
        sixSteps.answers("the last threshold", 50, shed -> shed.threshold(5));
        sixSteps.answers("the first rate", 1, shed -> shed.rate(0));
        sixSteps.answers("the last rate", 6, shed -> shed.rate(5));
    }

    private static void promises25And26NoSuchValue() {
        busy.refusesNumbers("dutyOn", 0, 9999, (shed, value) -> shed.dutyOn(value));
        busy.refusesNumbers("dutyOnByCoins", 0, 9999, (shed, value) -> shed.dutyOnByCoins(value));
        fresh.refusesNumbers("dutyOn without steps", 0, 9999, (shed, value) -> shed.dutyOn(value));
        fresh.refusesNumbers("dutyOnByCoins without steps", 0, 9999, (shed, value) -> shed.dutyOnByCoins(value));
        CustomsShed none = new CustomsShed();
        CustomsShed all = new CustomsShed();
        all.addStep(0, 100);
        for (int value : new int[] {0, 1, 9998, 9999}) {
            duties(none, value, 0);
            duties(all, value, value);
        }
    }

    private static void duties(CustomsShed shed, int value, int due) {
        check.same("dutyOn(" + value + ")", shed.dutyOn(value), due);
        check.same("dutyOnByCoins(" + value + ")", shed.dutyOnByCoins(value), due);
    }

    /** Rates of 100 and 0 in turn show to which part each coin belongs. */
    private static void termsPartsUpToAThreshold() {
        CustomsShed shed = new CustomsShed();
        shed.addStep(10, 100);
        shed.addStep(20, 0);
        shed.addStep(30, 100);
        for (int value = 0; value <= 60; value++) {
            int due = Math.max(0, Math.min(value, 20) - 10) + Math.max(0, value - 30);
            duties(shed, value, due);
        }
        shed.addStep(40, 0);
        shed.addStep(50, 100);
        shed.addStep(55, 0);
        for (int value = 0; value <= 70; value++) {
            int due = Math.max(0, Math.min(value, 20) - 10) + Math.max(0, Math.min(value, 40) - 30)
                    + Math.max(0, Math.min(value, 55) - 50);
            duties(shed, value, due);
        }
    }

    private static void termsRoundedDownOnce() {
        CustomsShed shed = new CustomsShed();
        shed.addStep(0, 33);
        shed.addStep(2, 34);
        shed.addStep(3, 99);
        shed.addStep(4, 1);
        duties(shed, 1, 0);
        duties(shed, 2, 0);
        // 33 + 33 + 34 is just 100; the parts by themselves are 0 each.
        duties(shed, 3, 1);
        duties(shed, 4, 1);
        // 199 + 1 is just 200.
        duties(shed, 5, 2);
        duties(shed, 104, 2);
        duties(shed, 105, 3);
    }

    private static void termsNeighbouringThresholds() {
        CustomsShed shed = new CustomsShed();
        for (int step = 0; step < 6; step++) {
            shed.addStep(step, 50 + 10 * step);
        }
        int[] due = {0, 0, 1, 1, 2, 3, 4};
        for (int value = 0; value < 7; value++) {
            duties(shed, value, due[value]);
        }
        duties(shed, 9999, 9997);
    }

    private static void termsHighestThreshold() {
        CustomsShed shed = new CustomsShed();
        shed.addStep(9999, 100);
        duties(shed, 9998, 0);
        duties(shed, 9999, 0);
        shed.addStep(9998, 100);
        duties(shed, 9998, 0);
        duties(shed, 9999, 1);
        shed.addStep(9997, 50);
        duties(shed, 9997, 0);
        duties(shed, 9998, 0);
        duties(shed, 9999, 1);
    }

    private static void promises25And26AgreeEverywhere() {
        int[] thresholds = {7, 99, 100, 2500, 7777, 9998};
        int[] rates = {100, 3, 0, 17, 99, 51};
        CustomsShed shed = new CustomsShed();
        for (int step = 0; step < 6; step++) {
            shed.addStep(thresholds[step], rates[step]);
        }
        int sum = 0;
        int calls = 0;
        for (int value = 0; value <= 9999; value++) {
            for (int step = 5; step >= 0; step--) {
                if (value > thresholds[step]) {
                    sum += rates[step];
                    break;
                }
            }
            boolean isNear = value % 100 < 2 || value > 9990 || value >= 95 && value <= 105;
            if (isNear && calls < 480) {
                duties(shed, value, sum / 100);
                calls += 2;
            }
        }
    }

    private static void promise27NoSuchLot() {
        Edges.refuseLots(check, "duty", (shed, lot) -> shed.duty(lot));
        busy.answers("duty of a damp lot", 8, shed -> shed.duty(2));
        busy.answers("duty above both thresholds", 65, shed -> shed.duty(1));
        busy.answers("duty up to the upper threshold", 10, shed -> shed.duty(6));
    }

    private static void promise27SealedLots() {
        busy.answers("duty of a sealed lot", 0, shed -> shed.duty(4));
        busy.answers("duty of it when it is open", 4860, shed -> shed.open(4) - 1 + shed.duty(4));
        busy.answers("duty of it after an audit", 4860, shed -> shed.audit() - 4 + shed.duty(4));
        busy.answers("duty when it is sealed again", 0, shed -> shed.open(4) - 3 + shed.seal(4) + shed.duty(4));
        fresh.answers("duty without steps", 0, shed -> shed.addLot('a', 99, 99, 0) + shed.open(0) + shed.duty(0));
    }

    private static void sums(CustomsShed shed, int due) {
        check.same("totalDuty", shed.totalDuty(), due);
        check.same("totalDutyByBays", shed.totalDutyByBays(), due);
    }

    private static void promises28And29Sums() {
        sums(new CustomsShed(), 0);
        sums(Recipes.full(0), 0);
        sums(Recipes.busy(), 83);
        CustomsShed shed = new CustomsShed();
        shed.addStep(0, 50);
        // Each lot's duty is rounded down by itself: three times 1.5 is 3.
        for (int bay : new int[] {23, 0, 11}) {
            Sheds.addOpen(shed, 3, bay, false);
        }
        sums(shed, 3);
        shed.release(shed.addLot('a', 1, 1, 1));
        sums(shed, 3);
        shed.move(0, 22);
        sums(shed, 3);
        shed.seal(1);
        sums(shed, 2);
        shed.wet(2);
        shed.passDays(1);
        sums(shed, 2);
        shed.passDays(1);
        sums(shed, 1);
        shed.passDays(1);
        sums(shed, 1);
    }

    private static void promises28And29GreatestSum() {
        CustomsShed shed = new CustomsShed();
        shed.addStep(0, 100);
        for (int lot = 0; lot < 16; lot++) {
            shed.addLot('e', 99, 99, 8 + lot);
            sums(shed, 9801 * lot);
            shed.open(lot);
            sums(shed, 9801 * (lot + 1));
        }
        check.holds("sixteen great lots are consistent", shed.isConsistent());
    }
}
