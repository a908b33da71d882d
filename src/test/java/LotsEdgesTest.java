/** Promises 1 to 19 and the terms of bays and lots: each sentence that names an edge. */
public final class LotsEdgesTest {
    private static final Check check = new Check("LotsEdgesTest");
    private static final Edges fresh = new Edges(check, CustomsShed::new);
    private static final Edges busy = new Edges(check, Recipes::busy);
    private static final Edges full = new Edges(check, () -> Recipes.full(0));

    public static void main(String[] args) {
        promise1NothingIsThere();
        promise2NoSuchBay();
        promise2NoSuchKind();
        promise2NoSuchQuantityOrPrice();
        promise2SixteenLots();
        promise2LotInTheBay();
        promise2FirstConditionDecides();
        promise3Seal();
        promise4Open();
        promise5Wet();
        promise6Move();
        promise6FirstConditionDecides();
        promises7And8Positions();
        promises9To15NoSuchLot();
        promise16LotAt();
        promise17NextEmptyBay();
        promise18QuantityOfKind();
        promise19Ranks();
        promise19EqualValues();
        termsIdsAreNotGivenAgain();
        termsValueFollowsTheQuantity();
        looksChangeNothing();
        check.finish();
    }

    private static void promise1NothingIsThere() {
        check.same("a new shed", Trace.look(new CustomsShed()), "queue day 0 damp 0 reach 0 destroyed 0 bond 0"
                + " collected 0 duty 0 releases 0 consistent true changes 0"
                + " error position NoSuchElementException failed command NoSuchElementException ");
        fresh.answers("the first id", 0, shed -> shed.addLot('a', 1, 1, 0));
        fresh.answers("duty without steps", 0, shed -> shed.dutyOn(9999));
        fresh.answers("the first of the buffer", 1, shed -> shed.feed('a'));
        fresh.answers("save of nothing", 0, shed -> shed.save());
    }

    private static void promise2NoSuchBay() {
        busy.refusesBays("addLot", (shed, bay) -> shed.addLot('a', 1, 1, bay));
        fresh.refusesBays("addLot to a new shed", (shed, bay) -> shed.addLot('a', 1, 1, bay));
        for (int bay = 0; bay < 24; bay++) {
            int free = bay;
            fresh.answers("addLot in bay " + bay, 0, shed -> shed.addLot('a', 1, 1, free));
            fresh.answers("its bay", bay, shed -> shed.bay(shed.addLot('a', 1, 1, free)));
        }
    }

    private static void promise2NoSuchKind() {
        busy.refusesKinds("addLot", (shed, kind) -> shed.addLot((char) kind, 1, 1, 1));
        for (char kind = 'a'; kind <= 'e'; kind++) {
            char good = kind;
            busy.answers("addLot of " + kind, 7, shed -> shed.addLot(good, 1, 1, 1));
            busy.answers("its kind", kind, shed -> shed.kind(shed.addLot(good, 1, 1, 1)));
        }
    }

    private static void promise2NoSuchQuantityOrPrice() {
        busy.refusesNumbers("addLot with a quantity", 1, 99, (shed, number) -> shed.addLot('a', number, 1, 1));
        busy.refusesNumbers("addLot with a price", 1, 99, (shed, number) -> shed.addLot('a', 1, number, 1));
        for (int number : new int[] {1, 2, 98, 99}) {
            busy.answers("quantity " + number, number, shed -> shed.quantity(shed.addLot('a', number, 1, 1)));
            busy.answers("price of quantity " + number, 1, shed -> shed.price(shed.addLot('a', number, 1, 1)));
            busy.answers("price " + number, number, shed -> shed.price(shed.addLot('a', 1, number, 1)));
            busy.answers("quantity of price " + number, 1, shed -> shed.quantity(shed.addLot('a', 1, number, 1)));
        }
        busy.answers("value of the greatest lot", 9801, shed -> shed.value(shed.addLot('a', 99, 99, 1)));
        busy.answers("a new lot is sealed", 1, shed -> shed.isSealed(shed.addLot('a', 1, 1, 9)) ? 1 : 0);
        busy.answers("a new lot by a damp one is dry", 0, shed -> shed.isDamp(shed.addLot('a', 1, 1, 9)) ? 1 : 0);
    }

    private static void promise2SixteenLots() {
        for (int bay = 16; bay < 24; bay++) {
            int free = bay;
            full.refuses("a 17th lot in bay " + bay, Edges.STATE, shed -> shed.addLot('a', 1, 1, free));
        }
        CustomsShed shed = new CustomsShed();
        for (int lot = 0; lot < 16; lot++) {
            check.same("lots ahead", shed.lotCount(), lot);
            check.same("lot " + lot, shed.addLot('b', 1, 1, 23 - lot), lot);
        }
        full.answers("after a release", 16, one -> one.release(0) + one.addLot('a', 1, 1, 16));
        full.answers("after an undo", 15, one -> one.undo() - 7 + one.addLot('a', 1, 1, 16));
        full.answers("after a lot is destroyed", 16, one -> {
            one.open(9);
            one.wet(9);
            one.passDays(1);
            return one.addLot('a', 1, 1, 9);
        });
    }

    private static void promise2LotInTheBay() {
        for (int bay : new int[] {0, 2, 5, 8, 12}) {
            busy.refuses("addLot in full bay " + bay, Edges.UNSUPPORTED, shed -> shed.addLot('a', 1, 1, bay));
        }
        // Bay 3 was left by a move, bay 10 by a release, and bay 23 by a lot that was destroyed.
        for (int bay : new int[] {1, 3, 4, 6, 7, 9, 10, 11, 13, 23}) {
            busy.answers("addLot in bay " + bay, 7, shed -> shed.addLot('a', 1, 1, bay));
        }
    }

    private static void promise2FirstConditionDecides() {
        for (int bay : new int[] {-1, 24}) {
            busy.refuses("no bay, no kind", Edges.BOUNDS, shed -> shed.addLot('f', 1, 1, bay));
            busy.refuses("no bay, no quantity", Edges.BOUNDS, shed -> shed.addLot('a', 0, 1, bay));
            busy.refuses("no bay, no price", Edges.BOUNDS, shed -> shed.addLot('a', 1, 100, bay));
            full.refuses("no bay, 16 lots", Edges.BOUNDS, shed -> shed.addLot('a', 1, 1, bay));
            full.refuses("no bay, no kind, 16 lots", Edges.BOUNDS, shed -> shed.addLot('f', 1, 1, bay));
        }
        for (int bay : new int[] {0, 16}) {
            full.refuses("no kind, 16 lots", Edges.ARGUMENT, shed -> shed.addLot('f', 1, 1, bay));
            full.refuses("no quantity, 16 lots", Edges.ARGUMENT, shed -> shed.addLot('a', 100, 1, bay));
            full.refuses("no price, 16 lots", Edges.ARGUMENT, shed -> shed.addLot('a', 1, 0, bay));
        }
        busy.refuses("no kind, full bay", Edges.ARGUMENT, shed -> shed.addLot('`', 1, 1, 5));
        busy.refuses("no quantity, full bay", Edges.ARGUMENT, shed -> shed.addLot('a', 0, 1, 5));
        busy.refuses("no price, full bay", Edges.ARGUMENT, shed -> shed.addLot('a', 1, 100, 5));
        for (int bay = 0; bay < 16; bay++) {
            int taken = bay;
            full.refuses("16 lots, full bay", Edges.STATE, shed -> shed.addLot('a', 1, 1, taken));
        }
    }

    private static void promise3Seal() {
        Edges.refuseLots(check, "seal", (shed, lot) -> shed.seal(lot));
        busy.refuses("seal of a sealed lot", Edges.STATE, shed -> shed.seal(0));
        busy.refuses("seal of a sealed lot that waits", Edges.STATE, shed -> shed.seal(4));
        busy.refuses("seal of a damp lot", Edges.UNSUPPORTED, shed -> shed.seal(2));
        busy.answers("seal of an open lot", 3, shed -> shed.seal(1));
        busy.answers("seal of two", 4, shed -> Math.max(shed.seal(1), shed.seal(6)));
        full.refuses("seal of the last of 16", Edges.STATE, shed -> shed.seal(15));
        full.answers("all 16 sealed again", 16, shed -> shed.open(15) - 15 + shed.seal(15));
    }

    private static void promise4Open() {
        Edges.refuseLots(check, "open", (shed, lot) -> shed.open(lot));
        busy.refuses("open of an open lot", Edges.STATE, shed -> shed.open(1));
        busy.refuses("open of a damp lot", Edges.STATE, shed -> shed.open(2));
        busy.answers("open of a sealed lot", 1, shed -> shed.open(0));
        busy.answers("open of the last sealed lot", 0, shed -> Math.min(shed.open(0), shed.open(4)));
        busy.answers("an opened lot still waits", 2, shed -> shed.open(4) - 1 + shed.queueLength());
    }

    private static void promise5Wet() {
        Edges.refuseLots(check, "wet", (shed, lot) -> shed.wet(lot));
        busy.refuses("wet of a sealed lot", Edges.STATE, shed -> shed.wet(0));
        busy.refuses("wet of a damp lot", Edges.STATE, shed -> shed.wet(2));
        busy.answers("wet of a dry open lot", 2, shed -> shed.wet(1));
        busy.answers("wet of all", 3, shed -> Math.max(shed.wet(1), shed.wet(6)));
        CustomsShed shed = Recipes.row(1, 1, 0);
        check.same("wet of the first of a shed", shed.dampCount(), 1);
    }

    private static void promise6Move() {
        Edges.refuseLots(check, "move", (shed, lot) -> shed.move(lot, 1));
        busy.refusesBays("move", (shed, bay) -> shed.move(1, bay));
        for (int lot : new int[] {0, 1, 2, 4, 6}) {
            busy.refuses("move of " + lot + " to its own bay", Edges.UNSUPPORTED, shed -> shed.move(lot, shed.bay(lot)));
            busy.refuses("move of " + lot + " to the bay of the next", Edges.UNSUPPORTED,
                    shed -> shed.move(lot, shed.bay((lot == 0 ? 1 : 0))));
        }
        int[] empty = {1, 3, 4, 6, 7, 9, 10, 11, 13, 14, 22, 23};
        for (int bay : empty) {
            busy.answers("move to bay " + bay, 5, shed -> shed.move(1, bay));
            busy.answers("bay after it", bay, shed -> shed.move(1, bay) - 5 + shed.bay(1));
        }
        busy.answers("move out of bay 0", 0, shed -> shed.move(4, 23));
        busy.answers("move back to bay 0", 23, shed -> shed.move(4, 23) + shed.move(4, 0));
        busy.answers("the bay before is empty", 5, shed -> shed.move(1, 6) - 5 + shed.nextEmptyBay(5));
        full.answers("move of the 16th lot", 15, shed -> shed.move(15, 23));
    }

    private static void promise6FirstConditionDecides() {
        for (int bay : new int[] {-1, 24, Integer.MIN_VALUE, Integer.MAX_VALUE}) {
            busy.refuses("move of no lot to no bay", Edges.NO_ELEMENT, shed -> shed.move(3, bay));
        }
        busy.refuses("move of no lot to a full bay", Edges.NO_ELEMENT, shed -> shed.move(7, 5));
        busy.refuses("move of no lot to its former bay", Edges.NO_ELEMENT, shed -> shed.move(3, 23));
    }

    private static void promises7And8Positions() {
        busy.refusesIndexesBeyond("lot", 5, (shed, position) -> shed.lot(position));
        fresh.refusesIndexesBeyond("lot of a new shed", 0, (shed, position) -> shed.lot(position));
        full.refusesIndexesBeyond("lot of a full shed", 16, (shed, position) -> shed.lot(position));
        int[] ids = {0, 1, 2, 4, 6};
        for (int position = 0; position < 5; position++) {
            int at = position;
            busy.answers("lot " + position, ids[position], shed -> shed.lot(at));
        }
        busy.answers("lots", 5, CustomsShed::lotCount);
        fresh.answers("lots of a new shed", 0, CustomsShed::lotCount);
        full.answers("lots of a full shed", 16, CustomsShed::lotCount);
        full.answers("the last position", 15, shed -> shed.lot(15));
        full.answers("the last position after a release", 15, shed -> shed.release(0) + shed.lot(14));
        new Edges(check, () -> released(15)).refusesIndexesBeyond("lot of 15", 15, (shed, at) -> shed.lot(at));
    }

    private static CustomsShed released(int lot) {
        CustomsShed shed = Recipes.full(0);
        shed.release(lot);
        return shed;
    }

    private static void promises9To15NoSuchLot() {
        Edges.refuseLots(check, "kind", (shed, lot) -> shed.kind(lot));
        Edges.refuseLots(check, "quantity", (shed, lot) -> shed.quantity(lot));
        Edges.refuseLots(check, "price", (shed, lot) -> shed.price(lot));
        Edges.refuseLots(check, "value", (shed, lot) -> shed.value(lot));
        Edges.refuseLots(check, "bay", (shed, lot) -> shed.bay(lot));
        Edges.refuseLots(check, "isSealed", (shed, lot) -> shed.isSealed(lot));
        Edges.refuseLots(check, "isDamp", (shed, lot) -> shed.isDamp(lot));
        CustomsShed shed = Recipes.busy();
        check.same("the busy shed's lots", Trace.look(shed).split("day")[0],
                "0=a5*20@2# duty 0 1=b30*7@5 duty 65 2=c9*9@8~ duty 8 4=e99*99@0# duty 0 6=a10*10@12 duty 10 "
                        + "by value 4 1 0 6 2 0>10 100>50 queue 4 1 ");
        check.same("value of lot 0", shed.value(0), 100);
        check.same("value of lot 1", shed.value(1), 210);
        check.same("value of lot 4", shed.value(4), 9801);
    }

    private static void promise16LotAt() {
        busy.refusesBays("lotAt", (shed, bay) -> shed.lotAt(bay));
        fresh.refusesBays("lotAt in a new shed", (shed, bay) -> shed.lotAt(bay));
        for (int bay : new int[] {1, 3, 4, 6, 7, 9, 10, 11, 13, 22, 23}) {
            busy.refuses("lotAt empty bay " + bay, Edges.NO_ELEMENT, shed -> shed.lotAt(bay));
        }
        for (int bay = 0; bay < 24; bay++) {
            int at = bay;
            fresh.refuses("lotAt bay " + bay + " of a new shed", Edges.NO_ELEMENT, shed -> shed.lotAt(at));
            fresh.answers("lotAt bay " + bay, 1, shed -> 1 + shed.addLot('a', 1, 1, at) + shed.lotAt(at));
        }
        int[] bays = {2, 5, 8, 0, 12};
        int[] lots = {0, 1, 2, 4, 6};
        for (int index = 0; index < 5; index++) {
            int at = bays[index];
            busy.answers("lotAt " + at, lots[index], shed -> shed.lotAt(at));
        }
    }

    private static void promise17NextEmptyBay() {
        busy.refusesBays("nextEmptyBay", (shed, bay) -> shed.nextEmptyBay(bay));
        Edges fullToTheEnd = new Edges(check, () -> Recipes.full(8));
        Edges fullFromTheStart = new Edges(check, () -> Recipes.full(0));
        for (int bay = 0; bay < 24; bay++) {
            int from = bay;
            fresh.answers("next in a new shed", bay, shed -> shed.nextEmptyBay(from));
            fullFromTheStart.answers("next from " + bay, Math.max(bay, 16), shed -> shed.nextEmptyBay(from));
            if (bay < 8) {
                fullToTheEnd.answers("next ahead from " + bay, bay, shed -> shed.nextEmptyBay(from));
            } else {
                fullToTheEnd.refuses("none from " + bay, Edges.NO_ELEMENT, shed -> shed.nextEmptyBay(from));
            }
        }
        fullToTheEnd.answers("the last one is free", 23, shed -> shed.release(15) + shed.nextEmptyBay(8));
        busy.answers("next from a full bay", 1, shed -> shed.nextEmptyBay(0));
        busy.answers("next from an empty bay", 1, shed -> shed.nextEmptyBay(1));
    }

    private static void promise18QuantityOfKind() {
        busy.refusesKinds("quantityOfKind", (shed, kind) -> shed.quantityOfKind((char) kind));
        fresh.refusesKinds("quantityOfKind in a new shed", (shed, kind) -> shed.quantityOfKind((char) kind));
        int[] due = {15, 30, 9, 0, 99};
        for (int index = 0; index < 5; index++) {
            char kind = (char) ('a' + index);
            busy.answers("quantity of " + kind, due[index], shed -> shed.quantityOfKind(kind));
            fresh.answers("quantity of " + kind + " in a new shed", 0, shed -> shed.quantityOfKind(kind));
        }
        CustomsShed shed = new CustomsShed();
        for (int bay = 0; bay < 16; bay++) {
            shed.addLot('e', 99, 1, bay);
        }
        check.same("quantity of 16 great lots", shed.quantityOfKind('e'), 16 * 99);
        shed.open(0);
        shed.wet(0);
        shed.passDays(1);
        check.same("quantity after a day", shed.quantityOfKind('e'), 16 * 99 - 1);
    }

    private static void promise19Ranks() {
        busy.refusesIndexesBeyond("lotByValue", 5, (shed, rank) -> shed.lotByValue(rank));
        fresh.refusesIndexesBeyond("lotByValue of none", 0, (shed, rank) -> shed.lotByValue(rank));
        full.refusesIndexesBeyond("lotByValue of 16", 16, (shed, rank) -> shed.lotByValue(rank));
        int[] lots = {4, 1, 0, 6, 2};
        for (int rank = 0; rank < 5; rank++) {
            int at = rank;
            busy.answers("rank " + rank, lots[rank], shed -> shed.lotByValue(at));
        }
        for (int rank = 0; rank < 16; rank++) {
            int at = rank;
            full.answers("rank " + rank + " of equal ones", rank, shed -> shed.lotByValue(at));
        }
    }

    /** The values are 12, 11, 13 and 12; then the first falls by its price, to 11 and below. */
    private static void promise19EqualValues() {
        CustomsShed shed = new CustomsShed();
        shed.addLot('a', 12, 1, 20);
        shed.addLot('a', 11, 1, 15);
        shed.addLot('a', 1, 13, 10);
        shed.addLot('a', 4, 3, 5);
        ranks(shed, "2031");
        shed.open(0);
        shed.wet(0);
        shed.passDays(1);
        ranks(shed, "2301");
        shed.passDays(1);
        ranks(shed, "2310");
    }

    private static void ranks(CustomsShed shed, String due) {
        StringBuilder ranks = new StringBuilder();
        for (int rank = 0; rank < shed.lotCount(); rank++) {
            ranks.append(shed.lotByValue(rank));
        }
        check.same("ranks", ranks.toString(), due);
    }

    private static void termsIdsAreNotGivenAgain() {
        busy.answers("after a destroyed and a released lot", 7, shed -> shed.addLot('d', 1, 1, 23));
        fresh.answers("after the only lot was released", 1, shed -> {
            shed.addLot('a', 1, 1, 0);
            shed.release(0);
            return shed.addLot('a', 1, 1, 0);
        });
        fresh.answers("after the only lot was destroyed", 1, shed -> {
            Sheds.addOpen(shed, 1, 0, true);
            shed.passDays(1);
            return shed.addLot('a', 1, 1, 0);
        });
        CustomsShed shed = new CustomsShed();
        for (int lot = 0; lot < 255; lot++) {
            check.same("id of lot " + lot, shed.addLot('a', 1, 1, 0), lot);
            shed.release(lot);
        }
        // These are the calls 511 and 512.
        check.same("the last id", shed.addLot('a', 1, 1, 0), 255);
        check.same("the last call", shed.lot(0), 255);
    }

    private static void termsValueFollowsTheQuantity() {
        CustomsShed shed = new CustomsShed();
        shed.addLot('a', 3, 7, 0);
        shed.open(0);
        shed.wet(0);
        for (int quantity = 3; quantity > 0; quantity--) {
            check.same("quantity", shed.quantity(0), quantity);
            check.same("price", shed.price(0), 7);
            check.same("value", shed.value(0), 7 * quantity);
            shed.passDays(1);
        }
        check.refused("value of a destroyed lot", Edges.NO_ELEMENT, () -> shed.value(0));
    }

    private static void looksChangeNothing() {
        busy.leavesNoTrace("a look", shed -> Trace.look(shed));
        busy.leavesNoTrace("lotAt, nextEmptyBay and more", shed -> {
            shed.lotAt(5);
            shed.nextEmptyBay(0);
            shed.quantityOfKind('a');
            shed.dutyOn(500);
            shed.dutyOnByCoins(500);
            shed.totalDutyByBays();
            shed.dampAfter(30);
            shed.dampReachByStretches();
            shed.meanValue();
            shed.sealedFraction();
            shed.outputCharacter(0);
        });
    }
}
