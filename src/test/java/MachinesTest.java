/** Promises 1 to 9: a new object, and the calls for machines. */
public final class MachinesTest {
    private static final Check check = new Check();

    public static void main(String[] args) {
        newObject();
        addMachine();
        addMachineRefuses();
        setMinutes();
        setMinutesRefuses();
        setSlot();
        setSlotRefuses();
        planPrice();
        planPriceInOrder();
        planPriceRefuses();
        planPriceIsFull();
        slot();
        machine();
        readingRefuses();
        runsOut();
        check.finish();
    }

    // Promise 1
    private static void newObject() {
        VendingRounds x = new VendingRounds();
        check.due("new: machineCount()", x.machineCount(), 0);
        check.due("new: today()", x.today(), 0);
        check.due("new: planned()", x.planned(), 0);
        check.dueDouble("new: filled()", x.filled(), 1.0);
        check.due("new: best(5000, 2000)", x.best(5000, 2000), 0);
        for (int what = 0; what < 4; what++) {
            check.due("new: total(" + what + ")", x.total(what), 0);
        }
        check.refused("new: machine(0, 0)", x, Check.INDEX, () -> x.machine(0, 0));
        check.refused("new: drive(1)", x, Check.ARGUMENT, () -> x.drive(1));
    }

    // Promises 2 and 6
    private static void addMachine() {
        VendingRounds x = new VendingRounds();
        int[] limits = {100, 100000, 101, 99999, 500, 1000, 777, 4242};
        for (int k = 0; k < 8; k++) {
            check.due("addMachine(" + limits[k] + ")", x.addMachine(limits[k]), k);
            check.due("machineCount()", x.machineCount(), k + 1);
        }
        for (int k = 0; k < 8; k++) {
            int[] facts = {0, limits[k], 0, 0, 0};
            int[] slotFacts = {0, 0, 100, 0, 0, 0};
            for (int what = 0; what < 5; what++) {
                check.due("new machine(" + k + ", " + what + ")", x.machine(k, what), facts[what]);
            }
            for (int what = 0; what < 6; what++) {
                check.due("new slot(" + k + ", 5, " + what + ")", x.slot(k, 5, what), slotFacts[what]);
            }
            check.due("drive to a new machine", x.drive(1 << k), 40);
        }
        check.due("drive to all, nothing set", x.drive(255), 180);
    }

    // Promise 2
    private static void addMachineRefuses() {
        VendingRounds x = new VendingRounds();
        int[] wrong = {99, 100001, 0, -100, Integer.MIN_VALUE, Integer.MAX_VALUE};
        for (int limit : wrong) {
            check.refused("addMachine(" + limit + ")", x, Check.ARGUMENT, () -> x.addMachine(limit));
        }
        for (int k = 0; k < 8; k++) {
            check.due("addMachine(100) behind refused ones", x.addMachine(100), k);
        }
        check.refused("the ninth machine", x, Check.STATE, () -> x.addMachine(100));
        check.refused("the ninth machine, wrong limit", x, Check.ARGUMENT, () -> x.addMachine(99));
        check.due("machineCount()", x.machineCount(), 8);
    }

    // Promise 3
    private static void setMinutes() {
        VendingRounds x = new VendingRounds();
        x.addMachine(100);
        x.addMachine(100);
        check.due("setMinutes(-1, 0, 1)", x.setMinutes(-1, 0, 1), 20);
        check.due("setMinutes(0, -1, 200)", x.setMinutes(0, -1, 200), 1);
        check.due("setMinutes(-1, 0, 30)", x.setMinutes(-1, 0, 30), 200);
        check.due("setMinutes(1, 0, 7)", x.setMinutes(1, 0, 7), 20);
        check.due("setMinutes(0, 1, 8)", x.setMinutes(0, 1, 8), 7);
        check.due("drive(1)", x.drive(1), 60);
        check.due("drive(2)", x.drive(2), 40);
        check.due("drive(3)", x.drive(3), 58);
        x.addMachine(100);
        check.due("setMinutes(2, 1, 9) of a later machine", x.setMinutes(2, 1, 9), 20);
        check.due("drive(3) stays", x.drive(3), 58);
        check.due("drive(7)", x.drive(7), 30 + 8 + 9 + 20);
    }

    // Promise 3
    private static void setMinutesRefuses() {
        VendingRounds x = new VendingRounds();
        check.refused("depot and depot", x, Check.ARGUMENT, () -> x.setMinutes(-1, -1, 5));
        check.refused("no machine 0", x, Check.INDEX, () -> x.setMinutes(0, -1, 5));
        x.addMachine(100);
        x.addMachine(100);
        int[] noPlace = {-2, 2, 8, 100, Integer.MIN_VALUE, Integer.MAX_VALUE};
        for (int place : noPlace) {
            check.refused("setMinutes(" + place + ", 0, 5)", x, Check.INDEX, () -> x.setMinutes(place, 0, 5));
            check.refused("setMinutes(-1, " + place + ", 5)", x, Check.INDEX, () -> x.setMinutes(-1, place, 5));
            check.refused("same and no place", x, Check.INDEX, () -> x.setMinutes(place, place, 5));
            check.refused("no place, wrong minutes", x, Check.INDEX, () -> x.setMinutes(place, 0, 0));
        }
        int[] wrong = {0, 201, -1, Integer.MIN_VALUE, Integer.MAX_VALUE};
        for (int minutes : wrong) {
            check.refused("setMinutes(0, 1, " + minutes + ")", x, Check.ARGUMENT, () -> x.setMinutes(0, 1, minutes));
        }
        check.refused("setMinutes(1, 1, 5)", x, Check.ARGUMENT, () -> x.setMinutes(1, 1, 5));
        check.due("drive(3) after refused calls", x.drive(3), 60);
    }

    // Promise 4
    private static void setSlot() {
        VendingRounds x = new VendingRounds();
        x.addMachine(100000);
        check.due("setSlot(0, 0, 30, 20)", x.setSlot(0, 0, 30, 20), 0);
        check.due("setSlot(0, 5, 10, 3)", x.setSlot(0, 5, 10, 3), 0);
        check.due("capacity", x.slot(0, 0, 0), 30);
        check.due("demand", x.slot(0, 0, 3), 20);
        check.due("stock stays 0", x.slot(0, 0, 1), 0);
        x.go(1, 2000);
        check.due("setSlot(0, 0, 12, 4)", x.setSlot(0, 0, 12, 4), 30);
        check.due("stock above the capacity is gone", x.slot(0, 0, 1), 12);
        check.due("gone pieces are not sold", x.slot(0, 0, 4), 0);
        check.due("gone pieces are not lost", x.slot(0, 0, 5), 0);
        check.due("setSlot(0, 0, 30, 0)", x.setSlot(0, 0, 30, 0), 12);
        check.due("stock does not come back", x.slot(0, 0, 1), 12);
        check.due("setSlot(0, 0, 12, 0)", x.setSlot(0, 0, 12, 0), 30);
        check.due("stock that just fits stays", x.slot(0, 0, 1), 12);
        check.due("setSlot(0, 0, 0, 0)", x.setSlot(0, 0, 0, 0), 12);
        check.due("no capacity, no stock", x.slot(0, 0, 1), 0);
        check.due("the other slot's stock", x.slot(0, 5, 1), 10);
        check.due("no coins for gone pieces", x.machine(0, 0), 0);
    }

    // Promise 4
    private static void setSlotRefuses() {
        VendingRounds x = new VendingRounds();
        check.refused("setSlot without machines", x, Check.INDEX, () -> x.setSlot(0, 0, 1, 1));
        x.addMachine(100);
        x.setSlot(0, 0, 5, 5);
        int[] noMachine = {-1, 1, 8, Integer.MIN_VALUE, Integer.MAX_VALUE};
        for (int machine : noMachine) {
            check.refused("setSlot(" + machine + ")", x, Check.INDEX, () -> x.setSlot(machine, 0, 1, 1));
            check.refused("setSlot(" + machine + "), all wrong", x, Check.INDEX, () -> x.setSlot(machine, 6, 31, 21));
        }
        int[] noProduct = {-1, 6, Integer.MIN_VALUE, Integer.MAX_VALUE};
        for (int product : noProduct) {
            check.refused("setSlot(0, " + product + ")", x, Check.INDEX, () -> x.setSlot(0, product, 1, 1));
            check.refused("setSlot(0, " + product + "), more wrong", x, Check.INDEX, () -> x.setSlot(0, product, -1, -1));
        }
        int[] wrongCapacity = {-1, 31, Integer.MIN_VALUE, Integer.MAX_VALUE};
        for (int capacity : wrongCapacity) {
            check.refused("capacity " + capacity, x, Check.ARGUMENT, () -> x.setSlot(0, 0, capacity, 1));
        }
        int[] wrongDemand = {-1, 21, Integer.MIN_VALUE, Integer.MAX_VALUE};
        for (int demand : wrongDemand) {
            check.refused("demand " + demand, x, Check.ARGUMENT, () -> x.setSlot(0, 0, 1, demand));
        }
    }

    // Promise 5
    private static void planPrice() {
        VendingRounds x = new VendingRounds();
        x.addMachine(100000);
        check.due("planPrice for today", x.planPrice(0, 0, 0, 1), 0);
        check.due("price at once", x.slot(0, 0, 2), 1);
        check.due("planPrice for today", x.planPrice(0, 0, 0, 1000), 0);
        check.due("price at once", x.slot(0, 0, 2), 1000);
        check.due("planPrice for tomorrow", x.planPrice(0, 0, 1, 7), 1);
        check.due("price stays until then", x.slot(0, 0, 2), 1000);
        check.due("planPrice for today counts the later ones", x.planPrice(0, 1, 0, 5), 1);
        check.due("planPrice for day 999", x.planPrice(0, 5, 999, 3), 2);
        x.pass(1);
        check.due("price of the next day", x.slot(0, 0, 2), 7);
        check.due("other price", x.slot(0, 1, 2), 5);
        check.due("planned()", x.planned(), 1);
        check.due("planPrice for the day that it is", x.planPrice(0, 0, 1, 8), 1);
        check.due("price at once", x.slot(0, 0, 2), 8);
        check.due("price of day 999 not yet", x.slot(0, 5, 2), 100);
    }

    // Promise 5: changes of one day are made in the order in which they were planned.
    private static void planPriceInOrder() {
        VendingRounds x = new VendingRounds();
        x.addMachine(100000);
        x.addMachine(100000);
        x.planPrice(0, 0, 3, 11);
        x.planPrice(0, 0, 2, 12);
        x.planPrice(1, 0, 3, 13);
        x.planPrice(0, 0, 3, 14);
        x.planPrice(1, 5, 3, 15);
        check.due("planPrice returns", x.planPrice(1, 0, 2, 16), 6);
        x.pass(2);
        check.due("day 2: slot(0, 0)", x.slot(0, 0, 2), 12);
        check.due("day 2: slot(1, 0)", x.slot(1, 0, 2), 16);
        check.due("day 2: planned()", x.planned(), 4);
        x.pass(1);
        check.due("day 3: slot(0, 0)", x.slot(0, 0, 2), 14);
        check.due("day 3: slot(1, 0)", x.slot(1, 0, 2), 13);
        check.due("day 3: slot(1, 5)", x.slot(1, 5, 2), 15);
        check.due("day 3: slot(0, 5)", x.slot(0, 5, 2), 100);
        check.due("day 3: planned()", x.planned(), 0);
    }

    // Promise 5
    private static void planPriceRefuses() {
        VendingRounds x = new VendingRounds();
        check.refused("planPrice without machines", x, Check.INDEX, () -> x.planPrice(0, 0, 0, 1));
        x.addMachine(100);
        x.pass(3);
        int[] noMachine = {-1, 1, Integer.MIN_VALUE, Integer.MAX_VALUE};
        for (int machine : noMachine) {
            check.refused("planPrice(" + machine + ")", x, Check.INDEX, () -> x.planPrice(machine, 0, 3, 1));
            check.refused("planPrice(" + machine + "), more wrong", x, Check.INDEX, () -> x.planPrice(machine, 0, 2, 0));
        }
        int[] noProduct = {-1, 6, Integer.MIN_VALUE, Integer.MAX_VALUE};
        for (int product : noProduct) {
            check.refused("planPrice(0, " + product + ")", x, Check.INDEX, () -> x.planPrice(0, product, 3, 1));
        }
        int[] wrongDay = {2, 1000, -1, Integer.MIN_VALUE, Integer.MAX_VALUE};
        for (int day : wrongDay) {
            check.refused("day " + day, x, Check.ARGUMENT, () -> x.planPrice(0, 0, day, 1));
        }
        int[] wrongPrice = {0, 1001, -1, Integer.MIN_VALUE, Integer.MAX_VALUE};
        for (int price : wrongPrice) {
            check.refused("price " + price + " today", x, Check.ARGUMENT, () -> x.planPrice(0, 0, 3, price));
            check.refused("price " + price + " later", x, Check.ARGUMENT, () -> x.planPrice(0, 0, 4, price));
        }
    }

    // Promise 5
    private static void planPriceIsFull() {
        VendingRounds x = new VendingRounds();
        x.addMachine(100);
        for (int k = 1; k <= 20; k++) {
            check.due("planPrice, number " + k, x.planPrice(0, k % 6, k, 200 + k), k);
        }
        check.refused("the 21st change", x, Check.STATE, () -> x.planPrice(0, 0, 1, 5));
        check.refused("the 21st change, day 999", x, Check.STATE, () -> x.planPrice(0, 0, 999, 5));
        check.refused("the 21st change, wrong price", x, Check.ARGUMENT, () -> x.planPrice(0, 0, 1, 0));
        check.refused("the 21st change, wrong day", x, Check.ARGUMENT, () -> x.planPrice(0, 0, 1000, 5));
        check.refused("the 21st change, no machine", x, Check.INDEX, () -> x.planPrice(1, 0, 1, 5));
        check.due("today goes on", x.planPrice(0, 0, 0, 5), 20);
        check.due("price at once", x.slot(0, 0, 2), 5);
        x.pass(1);
        check.due("planned()", x.planned(), 19);
        check.due("room for one again", x.planPrice(0, 0, 30, 6), 20);
        x.pass(19);
        check.due("planned()", x.planned(), 1);
        check.due("the last change of slot 2", x.slot(0, 2, 2), 220);
    }

    // Promise 7
    private static void slot() {
        VendingRounds x = new VendingRounds();
        x.addMachine(100000);
        x.addMachine(100000);
        x.setSlot(1, 4, 9, 4);
        x.planPrice(1, 4, 0, 55);
        x.go(2, 30);
        int[] first = {9, 9, 55, 4, 0, 0};
        int[] then = {9, 0, 55, 4, 9, 3};
        for (int what = 0; what < 6; what++) {
            check.due("slot(1, 4, " + what + ")", x.slot(1, 4, what), first[what]);
        }
        x.pass(3);
        for (int what = 0; what < 6; what++) {
            check.due("slot(1, 4, " + what + ") later", x.slot(1, 4, what), then[what]);
            check.due("slot(0, 4, " + what + ")", x.slot(0, 4, what), what == 2 ? 100 : 0);
            check.due("slot(1, 3, " + what + ")", x.slot(1, 3, what), what == 2 ? 100 : 0);
        }
        x.setSlot(1, 4, 0, 2);
        x.pass(1);
        check.due("wanted without a capacity is lost", x.slot(1, 4, 5), 5);
    }

    // Promise 8
    private static void machine() {
        VendingRounds x = new VendingRounds();
        x.addMachine(1234);
        x.addMachine(4321);
        x.setSlot(1, 0, 10, 2);
        x.setSlot(1, 5, 7, 1);
        x.planPrice(1, 5, 0, 30);
        int[] first = {0, 4321, 17, 10 * 100 + 7 * 30, 0};
        for (int what = 0; what < 5; what++) {
            check.due("machine(1, " + what + ")", x.machine(1, what), first[what]);
        }
        x.go(2, 12);
        x.pass(1);
        // 10 and 2 were filled in, 2 and 1 sold.
        int[] then = {230, 4321, 8, 2 * 100 + 6 * 30 + 230, 1};
        for (int what = 0; what < 5; what++) {
            check.due("machine(1, " + what + ") later", x.machine(1, what), then[what]);
            check.due("machine(0, " + what + ")", x.machine(0, what), what == 1 ? 1234 : 0);
        }
        x.planPrice(1, 0, 1, 1);
        check.due("the gain has the price of today", x.machine(1, 3), 2 * 1 + 6 * 30 + 230);
    }

    // Promises 7, 8 and 9
    private static void readingRefuses() {
        VendingRounds x = new VendingRounds();
        check.refused("slot without machines", x, Check.INDEX, () -> x.slot(0, 0, 0));
        check.refused("machine without machines", x, Check.INDEX, () -> x.machine(0, 0));
        check.refused("runsOut without machines", x, Check.INDEX, () -> x.runsOut(0, 0));
        x.addMachine(100);
        x.addMachine(100);
        int[] noMachine = {-1, 2, 8, Integer.MIN_VALUE, Integer.MAX_VALUE};
        for (int machine : noMachine) {
            check.refused("slot(" + machine + ", 0, 0)", x, Check.INDEX, () -> x.slot(machine, 0, 0));
            check.refused("machine(" + machine + ", 0)", x, Check.INDEX, () -> x.machine(machine, 0));
            check.refused("runsOut(" + machine + ", 0)", x, Check.INDEX, () -> x.runsOut(machine, 0));
        }
        int[] outside = {-1, 6, Integer.MIN_VALUE, Integer.MAX_VALUE};
        for (int value : outside) {
            check.refused("slot(0, " + value + ", 0)", x, Check.INDEX, () -> x.slot(0, value, 0));
            check.refused("slot(0, 0, " + value + ")", x, Check.INDEX, () -> x.slot(0, 0, value));
            check.refused("machine(0, " + value + ")", x, Check.INDEX, () -> x.machine(0, value));
            check.refused("runsOut(0, " + value + ")", x, Check.INDEX, () -> x.runsOut(0, value));
        }
        check.refused("machine(0, 5)", x, Check.INDEX, () -> x.machine(0, 5));
    }

    // Promise 9
    private static void runsOut() {
        VendingRounds x = new VendingRounds();
        x.addMachine(100);
        check.due("no stock, no demand", x.runsOut(0, 0), -1);
        x.setSlot(0, 0, 12, 3);
        check.due("no stock", x.runsOut(0, 0), -1);
        x.setSlot(0, 1, 13, 3);
        x.setSlot(0, 2, 5, 0);
        x.setSlot(0, 3, 1, 20);
        x.setSlot(0, 5, 30, 1);
        x.go(1, 2000);
        check.due("12 pieces, 3 a day", x.runsOut(0, 0), 3);
        check.due("13 pieces, 3 a day", x.runsOut(0, 1), 4);
        check.due("nobody wants it", x.runsOut(0, 2), -1);
        check.due("1 piece, 20 a day", x.runsOut(0, 3), 0);
        check.due("30 pieces, 1 a day", x.runsOut(0, 5), 29);
        // The box of 100 takes the coins of one piece only; runsOut leaves the box aside.
        x.pass(2);
        check.due("11 pieces on day 2", x.runsOut(0, 0), 2 + 3);
        check.due("13 pieces on day 2", x.runsOut(0, 1), 2 + 4);
        for (int k = 0; k < 33; k++) {
            x.pass(30);
        }
        x.pass(7);
        check.due("behind day 999", x.runsOut(0, 5), 999 + 29);
    }
}
