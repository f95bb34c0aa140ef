/** Promises 10 to 12: the calls for days. */
public final class DaysTest {
    private static final Check check = new Check();

    public static void main(String[] args) {
        sells();
        boxIsFull();
        dearOneDoesNotFitCheapOneDoes();
        severalMachines();
        pricesChangeBetweenDays();
        check.finish();
    }

    // Promises 10 and 11
    private static void sells() {
        VendingRounds x = new VendingRounds();
        check.due("pass(1) without machines", x.pass(1), 0);
        check.due("today()", x.today(), 1);
        x.addMachine(100000);
        x.setSlot(0, 2, 10, 4);
        x.go(1, 10);
        check.due("pass(1)", x.pass(1), 4);
        check.due("stock", x.slot(0, 2, 1), 6);
        check.due("sold", x.slot(0, 2, 4), 4);
        check.due("lost", x.slot(0, 2, 5), 0);
        check.due("coins", x.machine(0, 0), 400);
        check.due("pass(30)", x.pass(30), 6);
        check.due("today()", x.today(), 32);
        check.due("sold", x.slot(0, 2, 4), 10);
        check.due("lost", x.slot(0, 2, 5), 30 * 4 - 6);
        check.due("coins", x.machine(0, 0), 1000);
    }

    // Promise 10: a piece is sold if the coins with its price are not more than the limit.
    private static void boxIsFull() {
        VendingRounds x = new VendingRounds();
        x.addMachine(300);
        x.setSlot(0, 0, 30, 5);
        x.go(1, 30);
        check.due("pass(1) up to the limit", x.pass(1), 3);
        check.due("coins at the limit", x.machine(0, 0), 300);
        check.due("lost", x.slot(0, 0, 5), 2);
        check.due("pass(2), box full", x.pass(2), 0);
        check.due("lost", x.slot(0, 0, 5), 12);
        check.due("stock", x.slot(0, 0, 1), 27);
        x.go(1, 0);
        x.planPrice(0, 0, 3, 299);
        check.due("pass(1), one dear piece", x.pass(1), 1);
        check.due("coins", x.machine(0, 0), 299);
        x.planPrice(0, 0, 4, 2);
        check.due("one coin too few room", x.pass(1), 0);
        x.planPrice(0, 0, 5, 1);
        check.due("just the room", x.pass(1), 1);
        check.due("coins", x.machine(0, 0), 300);
    }

    // Promise 10: products sell in ascending order, and a later, cheaper one may still fit.
    private static void dearOneDoesNotFitCheapOneDoes() {
        VendingRounds x = new VendingRounds();
        x.addMachine(100);
        x.setSlot(0, 1, 5, 2);
        x.setSlot(0, 3, 5, 2);
        x.setSlot(0, 4, 5, 2);
        x.planPrice(0, 1, 0, 60);
        x.planPrice(0, 3, 0, 50);
        x.planPrice(0, 4, 0, 20);
        x.go(1, 15);
        check.due("pass(1)", x.pass(1), 3);
        check.due("product 1 sold", x.slot(0, 1, 4), 1);
        check.due("product 1 lost", x.slot(0, 1, 5), 1);
        check.due("product 3 sold", x.slot(0, 3, 4), 0);
        check.due("product 3 lost", x.slot(0, 3, 5), 2);
        check.due("product 4 sold", x.slot(0, 4, 4), 2);
        check.due("product 4 lost", x.slot(0, 4, 5), 0);
        check.due("coins", x.machine(0, 0), 100);
    }

    // Promise 10
    private static void severalMachines() {
        VendingRounds x = new VendingRounds();
        for (int k = 0; k < 8; k++) {
            x.addMachine(100000);
            x.setSlot(k, k % 6, 30, k + 1);
        }
        x.go(255, 2000);
        check.due("pass(3)", x.pass(3), 3 * (1 + 2 + 3 + 4 + 5 + 6 + 7 + 8));
        for (int k = 0; k < 8; k++) {
            check.due("sold at " + k, x.slot(k, k % 6, 4), 3 * (k + 1));
            check.due("coins of " + k, x.machine(k, 0), 300 * (k + 1));
        }
    }

    // Promises 10 and 12: all sell first, then the next day begins with its prices.
    private static void pricesChangeBetweenDays() {
        VendingRounds x = new VendingRounds();
        x.addMachine(100000);
        x.setSlot(0, 0, 30, 1);
        x.go(1, 30);
        x.planPrice(0, 0, 1, 10);
        x.planPrice(0, 0, 2, 1000);
        x.planPrice(0, 0, 4, 7);
        check.due("planned()", x.planned(), 3);
        x.pass(1);
        check.due("day 0 sold at the old price", x.machine(0, 0), 100);
        check.due("planned()", x.planned(), 2);
        x.pass(2);
        check.due("days 1 and 2", x.machine(0, 0), 100 + 10 + 1000);
        check.due("planned()", x.planned(), 1);
        x.pass(2);
        check.due("days 3 and 4", x.machine(0, 0), 1110 + 1000 + 7);
        check.due("planned()", x.planned(), 0);
    }
}
