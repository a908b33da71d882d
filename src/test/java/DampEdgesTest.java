/** Promises 30 to 36 and the terms of days, reach and notes: each sentence that names an edge. */
public final class DampEdgesTest {
    private static final Check check = new Check("DampEdgesTest");
    private static final Edges fresh = new Edges(check, CustomsShed::new);
    private static final Edges busy = new Edges(check, Recipes::busy);

    public static void main(String[] args) {
        promise30NoSuchDays();
        promise30CountsTheDestroyed();
        promise30ManyDaysAreSingleDays();
        termsOnlyNeighboursBecomeDamp();
        termsOneBayADay();
        termsSealedLotsStayDry();
        termsSealedLotsStopDamp();
        termsQuantityDecreases();
        termsDestroyedLotsSpread();
        termsDestroyedLotsLeave();
        promise31Day();
        promise32DampCount();
        promise33NoSuchDays();
        promise33DampAfterEachNumberOfDays();
        promises34And35ReachOfNone();
        promises34And35ReachOfARow();
        promises34And35ReachIsInterrupted();
        promise36DestroyedCount();
        check.finish();
    }

    private static void promise30NoSuchDays() {
        busy.refusesNumbers("passDays", 1, 30, (shed, days) -> shed.passDays(days));
        fresh.refusesNumbers("passDays in a new shed", 1, 30, (shed, days) -> shed.passDays(days));
        for (int days : new int[] {1, 2, 29, 30}) {
            fresh.answers("passDays of " + days, days, shed -> shed.passDays(days) + shed.day());
            busy.answers("passDays of " + days + " more", 1 + days, shed -> {
                shed.passDays(days);
                return shed.day();
            });
        }
    }

    /** A damp lot of quantity 30 is destroyed on day 30, one of 31 on the day after it. */
    private static void promise30CountsTheDestroyed() {
        CustomsShed shed = new CustomsShed();
        Sheds.addOpen(shed, 30, 0, true);
        Sheds.addOpen(shed, 31, 5, true);
        Sheds.addOpen(shed, 29, 10, true);
        Sheds.addOpen(shed, 1, 15, false);
        shed.addLot('a', 1, 1, 20);
        check.same("dampAfter(28)", shed.dampAfter(28), 3);
        check.same("dampAfter(29)", shed.dampAfter(29), 2);
        check.same("dampAfter(30)", shed.dampAfter(30), 1);
        check.same("passDays(28)", shed.passDays(28), 0);
        check.same("passDays(1) to day 29", shed.passDays(1), 1);
        check.same("passDays(1) to day 30", shed.passDays(1), 1);
        check.same("quantity after day 30", shed.quantity(1), 1);
        check.same("passDays(30) more", shed.passDays(30), 1);
        check.same("passDays(30) of none damp", shed.passDays(30), 0);
        check.same("lots that stay", Sheds.bays(shed), "...............a....A...");
        Edges three = new Edges(check, () -> row(3, 30));
        three.answers("passDays(29)", 0, one -> one.passDays(29));
        three.answers("passDays(30)", 1, one -> one.passDays(30));
        new Edges(check, () -> row(16, 1)).answers("passDays of a row of 16", 16, one -> one.passDays(16));
        new Edges(check, () -> row(16, 1)).answers("passDays of 15", 15, one -> one.passDays(15));
    }

    private static CustomsShed row(int lots, int quantity) {
        return Recipes.row(lots, quantity, 0);
    }

    private static void promise30ManyDaysAreSingleDays() {
        for (int days = 1; days <= 30; days++) {
            CustomsShed atOnce = Recipes.row(9, 11, 6);
            CustomsShed oneByOne = Recipes.row(9, 11, 6);
            int destroyed = 0;
            for (int day = 0; day < days; day++) {
                destroyed += day % 2 == 0 ? oneByOne.passDays(1) : destroyedByACommand(oneByOne);
            }
            check.same("passDays(" + days + ")", atOnce.passDays(days), destroyed);
            check.same("bays after " + days + " days", Sheds.bays(atOnce), Sheds.bays(oneByOne));
            check.same("day", atOnce.day(), oneByOne.day());
            check.same("quantities", atOnce.quantityOfKind('a'), oneByOne.quantityOfKind('a'));
            check.same("destroyed", atOnce.destroyedCount(), destroyed);
        }
    }

    private static int destroyedByACommand(CustomsShed shed) {
        int before = shed.destroyedCount();
        Sheds.execute(shed, "day");
        return shed.destroyedCount() - before;
    }

    /** Every two bays; the first and the last are no neighbours. */
    private static void termsOnlyNeighboursBecomeDamp() {
        for (int dampBay = 0; dampBay < 24; dampBay++) {
            for (int bay = 0; bay < 24; bay++) {
                if (bay != dampBay) {
                    twoLots(dampBay, bay);
                }
            }
        }
    }

    private static void twoLots(int dampBay, int bay) {
        int due = Math.abs(bay - dampBay) == 1 ? 2 : 1;
        CustomsShed shed = new CustomsShed();
        Sheds.addOpen(shed, 9, bay, false);
        Sheds.addOpen(shed, 9, dampBay, true);
        String what = "damp in bay " + dampBay + ", dry in bay " + bay + ": ";
        check.same(what + "dampReach", shed.dampReach(), due);
        check.same(what + "dampReachByStretches", shed.dampReachByStretches(), due);
        check.same(what + "dampAfter(1)", shed.dampAfter(1), due);
        shed.passDays(1);
        check.same(what + "after a day", shed.isDamp(0) ? 2 : 1, due);
    }

    private static void termsOneBayADay() {
        CustomsShed upwards = Recipes.row(16, 99, 8);
        CustomsShed downwards = new CustomsShed();
        for (int lot = 0; lot < 16; lot++) {
            Sheds.addOpen(downwards, 99, 15 - lot, lot == 0);
        }
        for (int day = 1; day <= 17; day++) {
            upwards.passDays(1);
            downwards.passDays(1);
            check.same("upwards, day " + day, upwards.dampCount(), Math.min(16, day + 1));
            check.same("downwards, day " + day, downwards.dampCount(), Math.min(16, day + 1));
        }
        CustomsShed both = new CustomsShed();
        for (int bay = 5; bay <= 11; bay++) {
            Sheds.addOpen(both, 9, bay, bay == 8);
        }
        String[] due = {"aaa~aaa", "aa~~~aa", "a~~~~~a", "~~~~~~~", "~~~~~~~"};
        for (String bays : due) {
            check.same("both ways", Sheds.bays(both), "....." + bays + "............");
            both.passDays(1);
        }
    }

    private static void termsSealedLotsStayDry() {
        CustomsShed shed = new CustomsShed();
        Sheds.addOpen(shed, 50, 10, true);
        shed.addLot('b', 7, 1, 9);
        shed.addLot('c', 7, 1, 11);
        for (int day = 0; day < 2; day++) {
            shed.passDays(day == 0 ? 1 : 30);
            check.same("bays", Sheds.bays(shed), ".........B~C............");
            check.same("quantity of a sealed lot", shed.quantity(1), 7);
        }
        shed.open(2);
        check.same("an opened lot is dry", Sheds.bays(shed), ".........B~c............");
        shed.passDays(1);
        check.same("and damp a day later", Sheds.bays(shed), ".........B~~............");
        check.same("without being smaller", shed.quantity(2), 7);
        check.refused("seal of a damp lot", Edges.UNSUPPORTED, () -> shed.seal(2));
    }

    private static void termsSealedLotsStopDamp() {
        CustomsShed shed = new CustomsShed();
        Sheds.addOpen(shed, 99, 4, true);
        shed.addLot('b', 1, 1, 5);
        Sheds.addOpen(shed, 99, 6, false);
        shed.passDays(30);
        check.same("behind a sealed lot", Sheds.bays(shed), "....~Ba.................");
        shed.enqueue(1);
        shed.audit();
        shed.passDays(1);
        check.same("a day after the audit", Sheds.bays(shed), "....~~a.................");
        shed.passDays(1);
        check.same("two days after it", Sheds.bays(shed), "....~.~.................");
    }

    private static void termsQuantityDecreases() {
        CustomsShed shed = new CustomsShed();
        Sheds.addOpen(shed, 2, 0, true);
        Sheds.addOpen(shed, 2, 1, false);
        Sheds.addOpen(shed, 2, 3, false);
        shed.addLot('a', 2, 1, 23);
        int[][] due = {{2, 2, 2, 2}, {1, 2, 2, 2}, {0, 1, 2, 2}, {0, 0, 2, 2}, {0, 0, 2, 2}};
        for (int[] quantities : due) {
            for (int lot = 0; lot < 4; lot++) {
                int one = lot;
                if (quantities[lot] > 0) {
                    check.same("quantity of " + lot, shed.quantity(lot), quantities[lot]);
                } else {
                    check.refused("quantity of " + lot, Edges.NO_ELEMENT, () -> shed.quantity(one));
                }
            }
            shed.passDays(1);
        }
    }

    private static void termsDestroyedLotsSpread() {
        CustomsShed shed = new CustomsShed();
        Sheds.addOpen(shed, 1, 10, false);
        Sheds.addOpen(shed, 1, 11, true);
        Sheds.addOpen(shed, 5, 12, false);
        shed.addLot('b', 5, 1, 9);
        check.same("dampAfter(1)", shed.dampAfter(1), 2);
        check.same("one is destroyed", shed.passDays(1), 1);
        check.same("both neighbours are damp", Sheds.bays(shed), ".........B~.~...........");
        check.same("a lot of quantity 1 that became damp stays", shed.quantity(0), 1);
        check.same("it is destroyed a day later", shed.passDays(1), 1);
        check.same("the sealed lot stays", Sheds.bays(shed), ".........B..~...........");
    }

    private static void termsDestroyedLotsLeave() {
        CustomsShed shed = new CustomsShed();
        for (int lot = 0; lot < 5; lot++) {
            Sheds.addOpen(shed, lot % 2 == 0 ? 1 : 9, 4 * lot, lot % 2 == 0);
        }
        for (int lot = 4; lot >= 0; lot--) {
            shed.enqueue(lot);
        }
        check.same("three are destroyed", shed.passDays(1), 3);
        check.same("the queue", Sheds.queue(shed), "3 1 ");
        check.same("lots", shed.lotCount(), 2);
        check.same("the first", shed.lot(0), 1);
        check.same("the second", shed.lot(1), 3);
        check.same("the bays", Sheds.bays(shed), "....a.......a...........");
        check.same("their bay is empty", shed.nextEmptyBay(0), 0);
        check.same("an audit takes the next", shed.audit(), 3);
        check.same("nothing is collected", shed.collected(), 0);
        CustomsShed all = Recipes.row(1, 1, 0);
        all.enqueue(0);
        check.same("the last is destroyed", all.passDays(30), 1);
        check.refused("audit of none", Edges.NO_ELEMENT, () -> all.audit());
        check.refused("mean of none", Edges.ARITHMETIC, () -> all.meanValue());
        check.refused("fraction of none", Edges.ARITHMETIC, () -> all.sealedFraction());
    }

    private static void promise31Day() {
        fresh.answers("day 0", 0, CustomsShed::day);
        fresh.answers("day after a refused call", 0, shed -> {
            Recipes.keep(shed, "day;audit");
            return shed.day();
        });
        fresh.answers("day after commands", 15, shed -> Sheds.execute(shed, "day;".repeat(14) + "day") - 15 + shed.day());
        CustomsShed shed = new CustomsShed();
        for (int call = 1; call <= 255; call++) {
            shed.passDays(30);
            check.same("day after " + call + " calls", shed.day(), 30 * call);
        }
    }

    private static void promise32DampCount() {
        fresh.answers("damp lots of none", 0, CustomsShed::dampCount);
        busy.answers("damp lots", 1, CustomsShed::dampCount);
        busy.answers("damp lots after a release", 0, shed -> shed.release(2) - 8 + shed.dampCount());
        CustomsShed shed = Recipes.row(16, 1, 0);
        for (int lot = 1; lot < 16; lot++) {
            check.same("wet", shed.wet(lot), lot + 1);
            check.same("damp lots", shed.dampCount(), lot + 1);
        }
        shed.passDays(1);
        check.same("damp lots after all are destroyed", shed.dampCount(), 0);
    }

    private static void promise33NoSuchDays() {
        busy.refusesNumbers("dampAfter", 0, 30, (shed, days) -> shed.dampAfter(days));
        fresh.refusesNumbers("dampAfter in a new shed", 0, 30, (shed, days) -> shed.dampAfter(days));
        for (int days : new int[] {0, 1, 29, 30}) {
            busy.leavesNoTrace("dampAfter(" + days + ")", shed -> shed.dampAfter(days));
            fresh.answers("dampAfter(" + days + ") of none", 0, shed -> shed.dampAfter(days));
        }
        busy.answers("dampAfter(0)", 1, shed -> shed.dampAfter(0));
        busy.answers("dampAfter(8)", 1, shed -> shed.dampAfter(8));
        busy.answers("dampAfter(9)", 0, shed -> shed.dampAfter(9));
    }

    private static void promise33DampAfterEachNumberOfDays() {
        CustomsShed ahead = Recipes.row(12, 7, 3);
        ahead.seal(9);
        CustomsShed shed = Recipes.row(12, 7, 3);
        shed.seal(9);
        for (int days = 0; days <= 30; days++) {
            check.same("dampAfter(" + days + ")", ahead.dampAfter(days), shed.dampCount());
            shed.passDays(1);
        }
        check.same("damp lots as before", ahead.dampCount(), 1);
    }

    private static void reach(CustomsShed shed, int due) {
        check.same("dampReach", shed.dampReach(), due);
        check.same("dampReachByStretches", shed.dampReachByStretches(), due);
    }

    private static void promises34And35ReachOfNone() {
        reach(new CustomsShed(), 0);
        reach(Recipes.full(0), 0);
        CustomsShed shed = Recipes.full(8);
        for (int lot = 0; lot < 16; lot++) {
            shed.open(lot);
            reach(shed, 0);
        }
        shed.wet(15);
        reach(shed, 16);
        for (int lot = 0; lot < 15; lot++) {
            shed.wet(lot);
            reach(shed, 16);
        }
    }

    /** Each lot of a row that begins or ends at an end of the shed is wet in turn. */
    private static void promises34And35ReachOfARow() {
        for (int firstBay : new int[] {0, 1, 7, 8}) {
            for (int wet = 0; wet < 16; wet++) {
                CustomsShed shed = Recipes.full(firstBay);
                for (int lot = 0; lot < 16; lot++) {
                    shed.open(lot);
                }
                shed.wet(wet);
                reach(shed, 16);
                shed.passDays(30);
                check.same("all become damp", shed.destroyedCount(), 16);
            }
        }
    }

    /** A gap or a sealed lot at each place of a row: only the side of the damp lot is reached. */
    private static void promises34And35ReachIsInterrupted() {
        for (int gap = 1; gap < 16; gap++) {
            CustomsShed sealed = Recipes.row(16, 9, 8);
            sealed.seal(gap);
            reach(sealed, gap);
            CustomsShed empty = Recipes.row(16, 9, 8);
            empty.release(gap);
            reach(empty, gap);
            if (gap < 15) {
                sealed.wet(15);
                reach(sealed, 15);
                empty.wet(15);
                reach(empty, 15);
            }
        }
        CustomsShed shed = new CustomsShed();
        for (int bay = 0; bay < 24; bay += 2) {
            Sheds.addOpen(shed, 9, bay, true);
            reach(shed, bay / 2 + 1);
        }
        Sheds.addOpen(shed, 9, 23, false);
        reach(shed, 13);
        shed.addLot('a', 9, 1, 1);
        reach(shed, 13);
    }

    private static void promise36DestroyedCount() {
        fresh.answers("destroyed in a new shed", 0, CustomsShed::destroyedCount);
        busy.answers("destroyed", 1, CustomsShed::destroyedCount);
        busy.answers("destroyed after a release", 1, shed -> shed.release(2) - 8 + shed.destroyedCount());
        busy.answers("destroyed after 8 days", 1, shed -> shed.passDays(8) + shed.destroyedCount());
        busy.answers("destroyed after 9 days", 3, shed -> shed.passDays(9) + shed.destroyedCount());
        busy.answers("destroyed after the undo", 1, shed -> shed.passDays(9) - 1 + shed.undo() - 7 + shed.destroyedCount());
        busy.answers("destroyed after restore", 0, shed -> shed.restore() - 6 + shed.destroyedCount());
    }
}
