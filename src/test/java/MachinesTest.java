/** Promises 1 to 9: a new object, and the calls for machines. */
public final class MachinesTest {
    private static final Check check = new Check();

    public static void main(String[] args) {
        addMachine();
        setMinutes();
        setSlot();
        planPrice();
        planPriceInOrder();
        slot();
        machine();
        runsOut();
        check.finish();
    }

    // Promises 2 and 6
    private static void addMachine() {
        VendingRounds x = new VendingRounds();
        int[] limits = {100, 100000, 101, 99999, 500, 1000, 777, 4242};
        for (int k = 0; k < 8; k++) {
            check.due("addMachine(" + limits[k] + ")", x.addMachine(limits[k]), k);
            check.due("machineCount()", x.machineCount(), k + 1);
        }
        for (int k = 0; k < 8; k++) {
            int[] facts = {0, limits[k], 0, 0, 0};
            int[] slotFacts = {0, 0, 100, 0, 0, 0};
            for (int what = 0; what < 5; what++) {
                check.due("new machine(" + k + ", " + what + ")", x.machine(k, what), facts[what]);
            }
            for (int what = 0; what < 6; what++) {
                check.due("new slot(" + k + ", 5, " + what + ")", x.slot(k, 5, what), slotFacts[what]);
            }
            check.due("drive to a new machine", x.drive(1 << k), 40);
        }
        check.due("drive to all, nothing set", x.drive(255), 180);
    }

    // Promise 3
    private static void setMinutes() {
        VendingRounds x = new VendingRounds();
        x.addMachine(100);
        x.addMachine(100);
        check.due("setMinutes(-1, 0, 1)", x.setMinutes(-1, 0, 1), 20);
        check.due("setMinutes(0, -1, 200)", x.setMinutes(0, -1, 200), 1);
        check.due("setMinutes(-1, 0, 30)", x.setMinutes(-1, 0, 30), 200);
        check.due("setMinutes(1, 0, 7)", x.setMinutes(1, 0, 7), 20);
        check.due("setMinutes(0, 1, 8)", x.setMinutes(0, 1, 8), 7);
        check.due("drive(1)", x.drive(1), 60);
        check.due("drive(2)", x.drive(2), 40);
        check.due("drive(3)", x.drive(3), 58);
        x.addMachine(100);
        check.due("setMinutes(2, 1, 9) of a later machine", x.setMinutes(2, 1, 9), 20);
        check.due("drive(3) stays", x.drive(3), 58);
        check.due("drive(7)", x.drive(7), 30 + 8 + 9 + 20);
    }

    // Promise 4
    private static void setSlot() {
        VendingRounds x = new VendingRounds();
        x.addMachine(100000);
        check.due("setSlot(0, 0, 30, 20)", x.setSlot(0, 0, 30, 20), 0);
        check.due("setSlot(0, 5, 10, 3)", x.setSlot(0, 5, 10, 3), 0);
        check.due("capacity", x.slot(0, 0, 0), 30);
        check.due("demand", x.slot(0, 0, 3), 20);
        check.due("stock stays 0", x.slot(0, 0, 1), 0);
        x.go(1, 2000);
        check.due("setSlot(0, 0, 12, 4)", x.setSlot(0, 0, 12, 4), 30);
        check.due("stock above the capacity is gone", x.slot(0, 0, 1), 12);
        check.due("gone pieces are not sold", x.slot(0, 0, 4), 0);
        check.due("gone pieces are not lost", x.slot(0, 0, 5), 0);
        check.due("setSlot(0, 0, 30, 0)", x.setSlot(0, 0, 30, 0), 12);
        check.due("stock does not come back", x.slot(0, 0, 1), 12);
        check.due("setSlot(0, 0, 12, 0)", x.setSlot(0, 0, 12, 0), 30);
        check.due("stock that just fits stays", x.slot(0, 0, 1), 12);
        check.due("setSlot(0, 0, 0, 0)", x.setSlot(0, 0, 0, 0), 12);
        check.due("no capacity, no stock", x.slot(0, 0, 1), 0);
        check.due("the other slot's stock", x.slot(0, 5, 1), 10);
        check.due("no coins for gone pieces", x.machine(0, 0), 0);
    }

    // Promise 5
    private static void planPrice() {
        VendingRounds x = new VendingRounds();
        x.addMachine(100000);
        check.due("planPrice for today", x.planPrice(0, 0, 0, 1), 0);
        check.due("price at once", x.slot(0, 0, 2), 1);
        check.due("planPrice for today", x.planPrice(0, 0, 0, 1000), 0);
        check.due("price at once", x.slot(0, 0, 2), 1000);
        check.due("planPrice for tomorrow", x.planPrice(0, 0, 1, 7), 1);
        check.due("price stays until then", x.slot(0, 0, 2), 1000);
        check.due("planPrice for today counts the later ones", x.planPrice(0, 1, 0, 5), 1);
        check.due("planPrice for day 999", x.planPrice(0, 5, 999, 3), 2);
        x.pass(1);
        check.due("price of the next day", x.slot(0, 0, 2), 7);
        check.due("other price", x.slot(0, 1, 2), 5);
        check.due("planned()", x.planned(), 1);
        check.due("planPrice for the day that it is", x.planPrice(0, 0, 1, 8), 1);
        check.due("price at once", x.slot(0, 0, 2), 8);
        check.due("price of day 999 not yet", x.slot(0, 5, 2), 100);
    }

    // Promise 5: changes of one day are made in the order in which they were planned.
    private static void planPriceInOrder() {
        VendingRounds x = new VendingRounds();
        x.addMachine(100000);
        x.addMachine(100000);
        x.planPrice(0, 0, 3, 11);
        x.planPrice(0, 0, 2, 12);
        x.planPrice(1, 0, 3, 13);
        x.planPrice(0, 0, 3, 14);
        x.planPrice(1, 5, 3, 15);
        check.due("planPrice returns", x.planPrice(1, 0, 2, 16), 6);
        x.pass(2);
        check.due("day 2: slot(0, 0)", x.slot(0, 0, 2), 12);
        check.due("day 2: slot(1, 0)", x.slot(1, 0, 2), 16);
        check.due("day 2: planned()", x.planned(), 4);
        x.pass(1);
        check.due("day 3: slot(0, 0)", x.slot(0, 0, 2), 14);
        check.due("day 3: slot(1, 0)", x.slot(1, 0, 2), 13);
        check.due("day 3: slot(1, 5)", x.slot(1, 5, 2), 15);
        check.due("day 3: slot(0, 5)", x.slot(0, 5, 2), 100);
        check.due("day 3: planned()", x.planned(), 0);
    }

    // Promise 7
    private static void slot() {
        VendingRounds x = new VendingRounds();
        x.addMachine(100000);
        x.addMachine(100000);
        x.setSlot(1, 4, 9, 4);
        x.planPrice(1, 4, 0, 55);
        x.go(2, 30);
        int[] first = {9, 9, 55, 4, 0, 0};
        int[] then = {9, 0, 55, 4, 9, 3};
        for (int what = 0; what < 6; what++) {
            check.due("slot(1, 4, " + what + ")", x.slot(1, 4, what), first[what]);
        }
        x.pass(3);
        for (int what = 0; what < 6; what++) {
            check.due("slot(1, 4, " + what + ") later", x.slot(1, 4, what), then[what]);
            check.due("slot(0, 4, " + what + ")", x.slot(0, 4, what), what == 2 ? 100 : 0);
            check.due("slot(1, 3, " + what + ")", x.slot(1, 3, what), what == 2 ? 100 : 0);
        }
        x.setSlot(1, 4, 0, 2);
        x.pass(1);
        check.due("wanted without a capacity is lost", x.slot(1, 4, 5), 5);
    }

    // Promise 8
    private static void machine() {
        VendingRounds x = new VendingRounds();
        x.addMachine(1234);
        x.addMachine(4321);
        x.setSlot(1, 0, 10, 2);
        x.setSlot(1, 5, 7, 1);
        x.planPrice(1, 5, 0, 30);
        int[] first = {0, 4321, 17, 10 * 100 + 7 * 30, 0};
        for (int what = 0; what < 5; what++) {
            check.due("machine(1, " + what + ")", x.machine(1, what), first[what]);
        }
        x.go(2, 12);
        x.pass(1);
        // 10 and 2 were filled in, 2 and 1 sold.
        int[] then = {230, 4321, 8, 2 * 100 + 6 * 30 + 230, 1};
        for (int what = 0; what < 5; what++) {
            check.due("machine(1, " + what + ") later", x.machine(1, what), then[what]);
            check.due("machine(0, " + what + ")", x.machine(0, what), what == 1 ? 1234 : 0);
        }
        x.planPrice(1, 0, 1, 1);
        check.due("the gain has the price of today", x.machine(1, 3), 2 * 1 + 6 * 30 + 230);
    }

    // Promise 9
    private static void runsOut() {
        VendingRounds x = new VendingRounds();
        x.addMachine(100);
        check.due("no stock, no demand", x.runsOut(0, 0), -1);
        x.setSlot(0, 0, 12, 3);
        check.due("no stock", x.runsOut(0, 0), -1);
        x.setSlot(0, 1, 13, 3);
        x.setSlot(0, 2, 5, 0);
        x.setSlot(0, 3, 1, 20);
        x.setSlot(0, 5, 30, 1);
        x.go(1, 2000);
        check.due("12 pieces, 3 a day", x.runsOut(0, 0), 3);
        check.due("13 pieces, 3 a day", x.runsOut(0, 1), 4);
        check.due("nobody wants it", x.runsOut(0, 2), -1);
        check.due("1 piece, 20 a day", x.runsOut(0, 3), 0);
        check.due("30 pieces, 1 a day", x.runsOut(0, 5), 29);
        // The box of 100 takes the coins of one piece only; runsOut leaves the box aside.
        x.pass(2);
        check.due("11 pieces on day 2", x.runsOut(0, 0), 2 + 3);
        check.due("13 pieces on day 2", x.runsOut(0, 1), 2 + 4);
        for (int k = 0; k < 33; k++) {
            x.pass(30);
        }
        x.pass(7);
        check.due("behind day 999", x.runsOut(0, 5), 999 + 29);
    }
}
