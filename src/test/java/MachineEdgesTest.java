/** Promises 1 to 9: a test for each sentence that names a boundary case or a refused call. */
public final class MachineEdgesTest {
    private static final String NO_MACHINE_OR_PRODUCT =
        "IndexOutOfBoundsException if there is no such machine, or product is not 0 to 5";

    private static final Check check = new Check();

    public static void main(String[] args) {
        check.sentence("Creates a planner without machines, on day 0.", () -> newObject());
        addMachine();
        setMinutes();
        setSlot();
        planPrice();
        reading();
        runsOut();
        check.finish();
    }

    private static void newObject() {
        VendingRounds x = new VendingRounds();
        check.due("machineCount()", x.machineCount(), 0);
        check.due("today()", x.today(), 0);
        check.due("planned()", x.planned(), 0);
        check.dueDouble("filled()", x.filled(), 1.0);
        check.due("drive(0)", x.drive(0), 0);
        check.due("best(5000, 2000)", x.best(5000, 2000), 0);
        for (int what = 0; what <= 3; what++) {
            check.due("total(" + what + ")", x.total(what), 0);
        }
        check.refused("machine(0, 0)", x, Check.INDEX, () -> x.machine(0, 0));
        check.refused("drive(1)", x, Check.ARGUMENT, () -> x.drive(1));
        check.due("pass(1)", x.pass(1), 0);
    }

    // Promises 2 and 6

    private static void addMachine() {
        check.sentence("Throws `IllegalArgumentException` if limit is not 100 to 100000", () -> limitOfABox());
        check.sentence("Throws `IllegalStateException` if there are 8 machines", () -> ninthMachine());
        check.sentence("Returns the number of machines.", () -> machineCount());
    }

    private static void limitOfABox() {
        VendingRounds x = new VendingRounds();
        for (int limit : Make.outside(100, 100000)) {
            check.refused("addMachine(" + limit + ")", x, Check.ARGUMENT, () -> x.addMachine(limit));
        }
        int[] limits = {100, 101, 99999, 100000};
        for (int k = 0; k < 4; k++) {
            check.due("addMachine(" + limits[k] + ")", x.addMachine(limits[k]), k);
            check.due("machine(" + k + ", 1)", x.machine(k, 1), limits[k]);
        }
    }

    private static void ninthMachine() {
        VendingRounds x = Make.machines(7);
        check.due("the eighth machine", x.addMachine(100), 7);
        check.refused("the ninth machine", x, Check.STATE, () -> x.addMachine(100));
        check.refused("the ninth machine, once more", x, Check.STATE, () -> x.addMachine(100000));
    }

    private static void machineCount() {
        VendingRounds x = new VendingRounds();
        check.due("machineCount() at first", x.machineCount(), 0);
        check.throwsIt("addMachine(99)", Check.ARGUMENT, () -> x.addMachine(99));
        check.due("machineCount() behind a refused one", x.machineCount(), 0);
        for (int k = 1; k <= 8; k++) {
            x.addMachine(100);
            check.due("machineCount()", x.machineCount(), k);
        }
        check.throwsIt("addMachine(100)", Check.STATE, () -> x.addMachine(100));
        check.due("machineCount() behind the ninth", x.machineCount(), 8);
    }

    // Promise 3

    private static void setMinutes() {
        check.sentence("a machine; -1 for the depot", () -> placesOfAWay());
        check.sentence("Returns the minutes before.", () -> minutesBefore());
        check.sentence("Throws `IndexOutOfBoundsException` if there is no such machine", () -> noSuchPlace());
        check.sentence("Throws `IllegalArgumentException` if a and b are the same", () -> samePlace());
        check.sentence("or minutes is not 1 to 200", () -> minutesOfAWay());
    }

    private static void placesOfAWay() {
        VendingRounds x = Make.machines(8);
        check.due("setMinutes(-1, 0, 30)", x.setMinutes(-1, 0, 30), 20);
        check.due("setMinutes(7, -1, 40)", x.setMinutes(7, -1, 40), 20);
        check.due("setMinutes(0, 7, 50)", x.setMinutes(0, 7, 50), 20);
        check.due("drive(1)", x.drive(1), 60);
        check.due("drive(128)", x.drive(128), 80);
        check.due("drive(129)", x.drive(129), 30 + 50 + 40);
    }

    private static void minutesBefore() {
        VendingRounds x = Make.machines(2);
        check.due("setMinutes(0, 1, 1)", x.setMinutes(0, 1, 1), 20);
        check.due("setMinutes(1, 0, 200)", x.setMinutes(1, 0, 200), 1);
        check.due("setMinutes(1, 0, 200), the same again", x.setMinutes(1, 0, 200), 200);
        check.throwsIt("setMinutes(0, 1, 201)", Check.ARGUMENT, () -> x.setMinutes(0, 1, 201));
        check.due("setMinutes(0, 1, 5) behind a refused one", x.setMinutes(0, 1, 5), 200);
        check.due("setMinutes(-1, 1, 5), another way", x.setMinutes(-1, 1, 5), 20);
    }

    private static void noSuchPlace() {
        VendingRounds none = new VendingRounds();
        check.refused("setMinutes(0, -1, 5)", none, Check.INDEX, () -> none.setMinutes(0, -1, 5));
        check.refused("setMinutes(-1, 0, 5)", none, Check.INDEX, () -> none.setMinutes(-1, 0, 5));
        noSuchPlaceAmong(2);
        noSuchPlaceAmong(8);
    }

    private static void noSuchPlaceAmong(int count) {
        VendingRounds x = Make.machines(count);
        for (int place : Make.outside(-1, count - 1)) {
            check.refused("setMinutes(" + place + ", 0, 5)", x, Check.INDEX, () -> x.setMinutes(place, 0, 5));
            check.refused("setMinutes(0, " + place + ", 5)", x, Check.INDEX, () -> x.setMinutes(0, place, 5));
            check.refused("setMinutes(" + place + ", -1, 5)", x, Check.INDEX, () -> x.setMinutes(place, -1, 5));
            check.refused("setMinutes(-1, " + place + ", 5)", x, Check.INDEX, () -> x.setMinutes(-1, place, 5));
        }
    }

    private static void samePlace() {
        VendingRounds none = new VendingRounds();
        check.refused("setMinutes(-1, -1, 5)", none, Check.ARGUMENT, () -> none.setMinutes(-1, -1, 5));
        VendingRounds x = Make.machines(8);
        for (int place = -1; place < 8; place++) {
            int same = place;
            check.refused("setMinutes(" + same + ", " + same + ", 5)", x, Check.ARGUMENT,
                () -> x.setMinutes(same, same, 5));
        }
    }

    private static void minutesOfAWay() {
        VendingRounds x = Make.machines(2);
        for (int minutes : Make.outside(1, 200)) {
            check.refused("setMinutes(0, 1, " + minutes + ")", x, Check.ARGUMENT, () -> x.setMinutes(0, 1, minutes));
            check.refused("setMinutes(-1, 1, " + minutes + ")", x, Check.ARGUMENT, () -> x.setMinutes(-1, 1, minutes));
        }
        int[] allowed = {1, 2, 199, 200};
        for (int minutes : allowed) {
            x.setMinutes(-1, 0, minutes);
            check.due("drive(1), " + minutes + " minutes", x.drive(1), 2 * minutes);
        }
    }

    // Promise 4

    private static void setSlot() {
        check.sentence("Pieces of its stock above the capacity are gone.", () -> piecesAboveTheCapacity());
        check.sentence("Returns the capacity before.", () -> capacityBefore());
        check.sentence("setSlot: " + NO_MACHINE_OR_PRODUCT, () -> slotThatIsNone(
            "setSlot", (x, machine, product) -> x.setSlot(machine, product, 1, 1)));
        check.sentence("Throws `IllegalArgumentException` if capacity is not 0 to 30", () -> capacityRange());
        check.sentence("or demand is not 0 to 20", () -> demandRange());
    }

    private static void piecesAboveTheCapacity() {
        int[] capacities = {0, 1, 9, 10, 11, 30};
        for (int capacity : capacities) {
            VendingRounds x = Make.stocked(100000, 10, 5);
            x.setSlot(0, 1, 4, 0);
            x.go(1, 4);
            x.setSlot(0, 0, capacity, 5);
            check.due("a stock of 10, a capacity of " + capacity, x.slot(0, 0, 1), Math.min(10, capacity));
            x.setSlot(0, 0, 30, 5);
            check.due("gone pieces do not come back", x.slot(0, 0, 1), Math.min(10, capacity));
            check.due("what is gone is not sold", x.slot(0, 0, 4), 0);
            check.due("what is gone is not lost", x.slot(0, 0, 5), 0);
            check.due("the stock of another product", x.slot(0, 1, 1), 4);
        }
    }

    private static void capacityBefore() {
        VendingRounds x = Make.machines(1);
        int[] capacities = {30, 0, 1, 1, 29};
        int before = 0;
        for (int capacity : capacities) {
            check.due("setSlot(0, 5, " + capacity + ", 20)", x.setSlot(0, 5, capacity, 20), before);
            before = capacity;
        }
        check.throwsIt("setSlot(0, 5, 31, 0)", Check.ARGUMENT, () -> x.setSlot(0, 5, 31, 0));
        check.due("setSlot(0, 5, 0, 0) behind a refused one", x.setSlot(0, 5, 0, 0), 29);
        check.due("setSlot(0, 4, 0, 0), another product", x.setSlot(0, 4, 0, 0), 0);
    }

    private interface SlotCall {
        long answer(VendingRounds x, int machine, int product);
    }

    /** The call must refuse all that is no slot, and take the first and the last slot. */
    private static void slotThatIsNone(String name, SlotCall call) {
        VendingRounds none = new VendingRounds();
        check.refused(name + " without machines", none, Check.INDEX, () -> call.answer(none, 0, 0));
        slotThatIsNoneAmong(1, name, call);
        slotThatIsNoneAmong(8, name, call);
    }

    private static void slotThatIsNoneAmong(int count, String name, SlotCall call) {
        VendingRounds x = Make.machines(count);
        for (int machine : Make.outside(0, count - 1)) {
            check.refused(name + " at machine " + machine, x, Check.INDEX, () -> call.answer(x, machine, 0));
        }
        for (int product : Make.outside(0, 5)) {
            check.refused(name + " of product " + product, x, Check.INDEX, () -> call.answer(x, 0, product));
        }
        call.answer(x, 0, 0);
        call.answer(x, count - 1, 5);
    }

    private static void capacityRange() {
        VendingRounds x = Make.stocked(100000, 10, 5);
        for (int capacity : Make.outside(0, 30)) {
            check.refused("setSlot(0, 0, " + capacity + ", 5)", x, Check.ARGUMENT, () -> x.setSlot(0, 0, capacity, 5));
        }
        int[] allowed = {0, 1, 29, 30};
        for (int capacity : allowed) {
            x.setSlot(0, 0, capacity, 5);
            check.due("a capacity of " + capacity, x.slot(0, 0, 0), capacity);
        }
    }

    private static void demandRange() {
        VendingRounds x = Make.stocked(100000, 10, 5);
        for (int demand : Make.outside(0, 20)) {
            check.refused("setSlot(0, 0, 10, " + demand + ")", x, Check.ARGUMENT, () -> x.setSlot(0, 0, 10, demand));
            check.refused("setSlot(0, 0, 9, " + demand + ")", x, Check.ARGUMENT, () -> x.setSlot(0, 0, 9, demand));
        }
        int[] allowed = {0, 1, 19, 20};
        for (int demand : allowed) {
            x.setSlot(0, 0, 10, demand);
            check.due("a demand of " + demand, x.slot(0, 0, 3), demand);
        }
    }

    // Promise 5

    private static void planPrice() {
        check.sentence("For today it is made at once.", () -> madeAtOnce());
        check.sentence("Returns how many changes are planned for later days then.", () -> changesThen());
        check.sentence("planPrice: " + NO_MACHINE_OR_PRODUCT, () -> slotThatIsNone(
            "planPrice", (x, machine, product) -> x.planPrice(machine, product, 0, 1)));
        check.sentence("Throws `IllegalArgumentException` if day is less than today", () -> dayBeforeToday());
        check.sentence("or greater than 999", () -> dayBehindTheLast());
        check.sentence("or price is not 1 to 1000", () -> priceRange());
        check.sentence("Throws `IllegalStateException` if day is not today, and 20 changes are planned for later days",
            () -> twentyChanges());
    }

    private static void madeAtOnce() {
        VendingRounds x = Make.stocked(100000, 30, 1);
        x.planPrice(0, 0, 0, 7);
        check.due("the price", x.slot(0, 0, 2), 7);
        x.planPrice(0, 0, 1, 8);
        check.due("the price, tomorrow's is not made yet", x.slot(0, 0, 2), 7);
        x.planPrice(0, 0, 0, 9);
        check.due("the price, changed again", x.slot(0, 0, 2), 9);
        check.due("the price of another product", x.slot(0, 1, 2), 100);
        x.pass(1);
        check.due("sold at the price of today", x.machine(0, 0), 9);
        check.due("the price planned for day 1", x.slot(0, 0, 2), 8);
        x.planPrice(0, 0, 1, 3);
        check.due("the price on day 1, changed at once", x.slot(0, 0, 2), 3);
        Make.reach(x, 999);
        x.planPrice(0, 0, 999, 5);
        check.due("the price on day 999", x.slot(0, 0, 2), 5);
    }

    private static void changesThen() {
        VendingRounds x = Make.machines(1);
        check.due("for today", x.planPrice(0, 0, 0, 5), 0);
        check.due("for tomorrow", x.planPrice(0, 0, 1, 5), 1);
        check.due("for today, with one planned", x.planPrice(0, 0, 0, 6), 1);
        check.due("for the same day and slot again", x.planPrice(0, 0, 1, 5), 2);
        check.due("for the last day", x.planPrice(0, 5, 999, 5), 3);
        check.due("the price that it has", x.planPrice(0, 4, 2, 100), 4);
        x.pass(1);
        check.due("for today, two have been made", x.planPrice(0, 0, 1, 7), 2);
        check.due("for tomorrow, two have been made", x.planPrice(0, 0, 2, 7), 3);
    }

    private static void dayBeforeToday() {
        VendingRounds x = Make.machines(1);
        check.refused("day -1 on day 0", x, Check.ARGUMENT, () -> x.planPrice(0, 0, -1, 5));
        check.due("day 0 on day 0", x.planPrice(0, 0, 0, 5), 0);
        x.pass(3);
        int[] days = {2, 1, 0, -1, Integer.MIN_VALUE};
        for (int day : days) {
            check.refused("day " + day + " on day 3", x, Check.ARGUMENT, () -> x.planPrice(0, 0, day, 6));
        }
        check.due("day 3 on day 3", x.planPrice(0, 0, 3, 5), 0);
        Make.reach(x, 999);
        check.refused("day 998 on day 999", x, Check.ARGUMENT, () -> x.planPrice(0, 0, 998, 6));
    }

    private static void dayBehindTheLast() {
        VendingRounds x = Make.machines(1);
        int[] days = {1000, 1001, Integer.MAX_VALUE};
        for (int day : days) {
            check.refused("day " + day, x, Check.ARGUMENT, () -> x.planPrice(0, 0, day, 5));
        }
        check.due("day 998", x.planPrice(0, 0, 998, 5), 1);
        check.due("day 999", x.planPrice(0, 1, 999, 6), 2);
        Make.reach(x, 999);
        check.due("the price of day 999", x.slot(0, 1, 2), 6);
        check.refused("day 1000 on day 999", x, Check.ARGUMENT, () -> x.planPrice(0, 0, 1000, 5));
    }

    private static void priceRange() {
        VendingRounds x = Make.machines(1);
        for (int price : Make.outside(1, 1000)) {
            check.refused("price " + price + " for today", x, Check.ARGUMENT, () -> x.planPrice(0, 0, 0, price));
            check.refused("price " + price + " for later", x, Check.ARGUMENT, () -> x.planPrice(0, 0, 9, price));
        }
        int[] allowed = {1, 2, 999, 1000};
        for (int price : allowed) {
            x.planPrice(0, 0, x.today(), price);
            check.due("price " + price + ", at once", x.slot(0, 0, 2), price);
            x.planPrice(0, 1, x.today() + 1, price);
            x.pass(1);
            check.due("price " + price + ", as planned", x.slot(0, 1, 2), price);
        }
    }

    private static void twentyChanges() {
        VendingRounds x = Make.machines(1);
        for (int k = 1; k <= 19; k++) {
            x.planPrice(0, 0, k, 200 + k);
        }
        check.due("the 20th", x.planPrice(0, 0, 999, 220), 20);
        check.refused("the 21st, for tomorrow", x, Check.STATE, () -> x.planPrice(0, 0, 1, 5));
        check.refused("the 21st, for day 999", x, Check.STATE, () -> x.planPrice(0, 5, 999, 5));
        check.due("for today, with 20 planned", x.planPrice(0, 0, 0, 5), 20);
        check.due("the price of today", x.slot(0, 0, 2), 5);
        x.pass(1);
        check.due("the 20th, when one has been made", x.planPrice(0, 1, 2, 6), 20);
        check.refused("the 21st, on day 1", x, Check.STATE, () -> x.planPrice(0, 0, 2, 5));
        x.pass(1);
        check.due("the price of product 0 on day 2", x.slot(0, 0, 2), 202);
        check.due("the price of product 1 on day 2", x.slot(0, 1, 2), 6);
        check.due("planned() on day 2", x.planned(), 18);
    }

    // Promises 7 and 8

    private static void reading() {
        check.sentence("slot: " + NO_MACHINE_OR_PRODUCT, () -> slotThatIsNone(
            "slot", (x, machine, product) -> x.slot(machine, product, 0)));
        check.sentence("or what is not 0 to 5", () -> whatOfASlot());
        check.sentence("machine: IndexOutOfBoundsException if there is no such machine", () -> machineThatIsNone());
        check.sentence("or what is not 0 to 4", () -> whatOfAMachine());
    }

    private static void whatOfASlot() {
        VendingRounds x = Make.stocked(100000, 9, 5);
        x.pass(2);
        x.planPrice(0, 0, 2, 55);
        x.setSlot(0, 0, 30, 4);
        x.go(1, 7);
        for (int what : Make.outside(0, 5)) {
            check.refused("slot(0, 0, " + what + ")", x, Check.INDEX, () -> x.slot(0, 0, what));
        }
        int[] due = {30, 7, 55, 4, 9, 1};
        for (int what = 0; what <= 5; what++) {
            check.due("slot(0, 0, " + what + ")", x.slot(0, 0, what), due[what]);
        }
    }

    private static void machineThatIsNone() {
        VendingRounds none = new VendingRounds();
        check.refused("machine(0, 0) without machines", none, Check.INDEX, () -> none.machine(0, 0));
        int[] counts = {1, 8};
        for (int count : counts) {
            VendingRounds x = Make.machines(count);
            for (int machine : Make.outside(0, count - 1)) {
                check.refused("machine(" + machine + ", 1)", x, Check.INDEX, () -> x.machine(machine, 1));
            }
            check.due("machine(0, 1)", x.machine(0, 1), 100000);
            check.due("machine(" + (count - 1) + ", 1)", x.machine(count - 1, 1), 100000);
        }
    }

    private static void whatOfAMachine() {
        VendingRounds x = Make.stocked(5000, 9, 5);
        x.pass(2);
        x.setSlot(0, 5, 3, 0);
        x.go(1, 0);
        x.go(1, 7);
        x.pass(1);
        for (int what : Make.outside(0, 4)) {
            check.refused("machine(0, " + what + ")", x, Check.INDEX, () -> x.machine(0, what));
        }
        int[] due = {500, 5000, 10, 1000 + 500, 3};
        for (int what = 0; what <= 4; what++) {
            check.due("machine(0, " + what + ")", x.machine(0, what), due[what]);
        }
    }

    // Promise 9

    private static void runsOut() {
        check.sentence("the first day behind which nothing of it would be left in stock", () -> firstDayOfNothing());
        check.sentence("if the box had no limit", () -> boxLeftAside());
        check.sentence("-1 if the stock is 0", () -> neverInStock());
        check.sentence("or nobody wants it", () -> neverWanted());
        check.sentence("runsOut: " + NO_MACHINE_OR_PRODUCT, () -> slotThatIsNone(
            "runsOut", (x, machine, product) -> x.runsOut(machine, product)));
    }

    private static void firstDayOfNothing() {
        int[] stocks = {1, 4, 5, 6, 10, 11, 30};
        int[] due = {0, 0, 0, 1, 1, 2, 5};
        for (int k = 0; k < stocks.length; k++) {
            VendingRounds x = Make.stocked(100000, stocks[k], 5);
            check.due(stocks[k] + " pieces, 5 a day", x.runsOut(0, 0), due[k]);
            x.pass(due[k] + 1);
            check.due("the stock behind that day", x.slot(0, 0, 1), 0);
        }
        VendingRounds x = Make.stocked(100000, 11, 5);
        x.pass(1);
        check.due("6 pieces on day 1, 5 a day", x.runsOut(0, 0), 2);
        check.due("30 pieces, 1 a day", Make.stocked(100, 30, 1).runsOut(0, 0), 29);
        check.due("1 piece, 20 a day", Make.stocked(100, 1, 20).runsOut(0, 0), 0);
        VendingRounds last = Make.stocked(100, 30, 0);
        Make.reach(last, 999);
        last.setSlot(0, 0, 30, 20);
        check.due("30 pieces on day 999, 20 a day", last.runsOut(0, 0), 1000);
        last.setSlot(0, 0, 20, 20);
        check.due("20 pieces on day 999, 20 a day", last.runsOut(0, 0), 999);
    }

    private static void boxLeftAside() {
        VendingRounds x = Make.stocked(100, 10, 5);
        check.due("room for one piece", x.runsOut(0, 0), 1);
        x.pass(3);
        check.due("the box full, 9 pieces on day 3", x.runsOut(0, 0), 4);
        x.planPrice(0, 0, 3, 1000);
        check.due("a price above the limit", x.runsOut(0, 0), 4);
    }

    private static void neverInStock() {
        VendingRounds x = Make.stocked(100000, 5, 5);
        x.pass(1);
        check.due("sold out", x.runsOut(0, 0), -1);
        x.setSlot(0, 1, 30, 1);
        check.due("never filled", x.runsOut(0, 1), -1);
        check.due("no capacity", x.runsOut(0, 5), -1);
        x.go(1, 1);
        check.due("one piece again, on day 1", x.runsOut(0, 0), 1);
    }

    private static void neverWanted() {
        VendingRounds x = Make.stocked(100000, 5, 0);
        check.due("a demand of 0", x.runsOut(0, 0), -1);
        x.setSlot(0, 0, 5, 1);
        check.due("a demand of 1", x.runsOut(0, 0), 4);
        x.setSlot(0, 0, 5, 0);
        check.due("a demand of 0 again", x.runsOut(0, 0), -1);
    }
}
