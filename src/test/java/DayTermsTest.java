/** What "Terms" says of days: a test for each sentence that names a boundary case. */
public final class DayTermsTest {
    private static final Check check = new Check();

    public static void main(String[] args) {
        check.sentence("It is some day, at first day 0.", () -> dayZero());
        check.sentence("all machines sell", () -> allMachinesSell());
        check.sentence("for each machine its products in ascending order", () -> productsAscending());
        check.sentence("as many pieces as are wanted", () -> asManyAsWanted());
        check.sentence("one after the other", () -> oneAfterTheOther());
        check.sentence("each one only if the stock is not 0", () -> stockNotZero());
        check.sentence("the coins in the box with the price are not more than the limit", () -> notMoreThanLimit());
        check.sentence("Each piece that is wanted and not sold is lost.", () -> notSoldIsLost());
        check.sentence("Then it is the next day", () -> nextDay());
        check.sentence("changes of prices that are planned for this day are made at its beginning",
            () -> changesAtTheBeginning());
        check.sentence("in the order in which they were planned", () -> changesInOrder());
        check.finish();
    }

    private static void dayZero() {
        VendingRounds x = new VendingRounds();
        check.due("today()", x.today(), 0);
        x.addMachine(100);
        check.due("planPrice(0, 0, 0, 7) is for today", x.planPrice(0, 0, 0, 7), 0);
        check.due("the price", x.slot(0, 0, 2), 7);
        check.due("planPrice(0, 0, 1, 8) is for later", x.planPrice(0, 0, 1, 8), 1);
    }

    private static void allMachinesSell() {
        VendingRounds x = Make.machines(8);
        for (int k = 0; k < 8; k++) {
            x.setSlot(k, 0, 30, k + 1);
            x.setSlot(k, 5, 30, 1);
        }
        x.go(255, 2000);
        check.due("pass(1)", x.pass(1), 36 + 8);
        for (int k = 0; k < 8; k++) {
            check.due("sold of product 0 at " + k, x.slot(k, 0, 4), k + 1);
            check.due("sold of product 5 at " + k, x.slot(k, 5, 4), 1);
        }
    }

    private static void productsAscending() {
        VendingRounds x = new VendingRounds();
        x.addMachine(100);
        x.addMachine(100);
        for (int p = 0; p <= 5; p++) {
            x.setSlot(0, p, 1, 1);
        }
        x.setSlot(1, 4, 1, 1);
        x.setSlot(1, 5, 1, 1);
        x.go(3, 2000);
        check.due("pass(1): each box has room for one piece", x.pass(1), 2);
        for (int p = 0; p <= 5; p++) {
            check.due("sold of product " + p + " at 0", x.slot(0, p, 4), p == 0 ? 1 : 0);
        }
        check.due("sold of product 4 at 1", x.slot(1, 4, 4), 1);
        check.due("sold of product 5 at 1", x.slot(1, 5, 4), 0);
    }

    private static void asManyAsWanted() {
        int[] demands = {0, 1, 19, 20};
        for (int demand : demands) {
            VendingRounds x = Make.stocked(100000, 30, demand);
            check.due("pass(1) with a demand of " + demand, x.pass(1), demand);
            check.due("the stock then", x.slot(0, 0, 1), 30 - demand);
            check.due("the coins then", x.machine(0, 0), 100 * demand);
        }
    }

    private static void oneAfterTheOther() {
        VendingRounds x = Make.stocked(399, 30, 5);
        check.due("pass(1): the box has room for 3 of the 5 pieces", x.pass(1), 3);
        VendingRounds y = Make.stocked(100000, 3, 5);
        check.due("pass(1): the stock has 3 of the 5 pieces", y.pass(1), 3);
    }

    private static void stockNotZero() {
        int[] stocks = {4, 5, 6};
        int[] sold = {4, 5, 5};
        for (int k = 0; k < 3; k++) {
            VendingRounds x = Make.stocked(100000, stocks[k], 5);
            check.due("pass(1), 5 wanted of " + stocks[k], x.pass(1), sold[k]);
            check.due("the stock then", x.slot(0, 0, 1), stocks[k] - sold[k]);
        }
        VendingRounds x = Make.stocked(100000, 1, 1);
        check.due("pass(1), a stock of 1", x.pass(1), 1);
        check.due("pass(1), a stock of 0", x.pass(1), 0);
        check.due("the stock stays 0", x.slot(0, 0, 1), 0);
        check.due("the coins of one piece", x.machine(0, 0), 100);
    }

    private static void notMoreThanLimit() {
        int[] limits = {299, 300, 301};
        int[] sold = {2, 3, 3};
        for (int k = 0; k < 3; k++) {
            VendingRounds x = Make.stocked(limits[k], 30, 5);
            check.due("pass(1), a limit of " + limits[k], x.pass(1), sold[k]);
            check.due("the coins then", x.machine(0, 0), 100 * sold[k]);
            check.due("pass(1) with the box full", x.pass(1), 0);
        }
        // The first piece is measured against the limit, too: a price may be greater than it.
        int[] prices = {99, 100, 101, 1000};
        for (int price : prices) {
            VendingRounds x = Make.stocked(100, 5, 1);
            x.planPrice(0, 0, 0, price);
            check.due("pass(1), a limit of 100 and a price of " + price, x.pass(1), price <= 100 ? 1 : 0);
        }
        // A dear product that does not fit leaves the room to a cheap one behind it.
        VendingRounds x = Make.stocked(150, 5, 1);
        x.setSlot(0, 1, 5, 2);
        x.setSlot(0, 2, 5, 1);
        x.planPrice(0, 1, 0, 51);
        x.planPrice(0, 2, 0, 50);
        x.go(1, 2000);
        check.due("pass(1): products 0 and 2", x.pass(1), 2);
        check.due("product 1 does not fit", x.slot(0, 1, 4), 0);
        check.due("product 2 just fits", x.slot(0, 2, 4), 1);
    }

    private static void notSoldIsLost() {
        VendingRounds few = Make.stocked(100000, 4, 4);
        few.pass(1);
        check.due("all sold: lost", few.slot(0, 0, 5), 0);
        few.pass(1);
        check.due("the stock is 0: lost", few.slot(0, 0, 5), 4);
        few.pass(2);
        check.due("two days more: lost", few.slot(0, 0, 5), 12);
        VendingRounds full = Make.stocked(199, 30, 3);
        full.pass(1);
        check.due("the box is full: lost", full.slot(0, 0, 5), 2);
        full.setSlot(0, 0, 30, 0);
        full.pass(1);
        check.due("nobody wants it: lost", full.slot(0, 0, 5), 2);
        VendingRounds none = Make.machines(1);
        none.setSlot(0, 5, 0, 20);
        none.pass(1);
        check.due("wanted where the capacity is 0: lost", none.slot(0, 5, 5), 20);
    }

    private static void nextDay() {
        VendingRounds x = Make.machines(1);
        x.pass(1);
        check.due("today() behind one day", x.today(), 1);
        x.pass(30);
        check.due("today() behind 31 days", x.today(), 31);
    }

    private static void changesAtTheBeginning() {
        VendingRounds x = Make.stocked(100000, 30, 1);
        x.planPrice(0, 0, 1, 7);
        x.planPrice(0, 0, 3, 9);
        x.pass(1);
        check.due("day 0 sells at the old price", x.machine(0, 0), 100);
        check.due("the price on day 1", x.slot(0, 0, 2), 7);
        check.due("planned() on day 1", x.planned(), 1);
        x.pass(1);
        check.due("day 1 sells at its new price", x.machine(0, 0), 107);
        check.due("the price on day 2 stays", x.slot(0, 0, 2), 7);
        x.pass(2);
        check.due("day 2 at the old, day 3 at the new price", x.machine(0, 0), 107 + 7 + 9);
        check.due("planned() on day 4", x.planned(), 0);
        x.planPrice(0, 0, 4, 1);
        x.pass(1);
        check.due("a change is made on its day only", x.slot(0, 0, 2), 1);
    }

    private static void changesInOrder() {
        VendingRounds x = Make.machines(2);
        x.planPrice(0, 0, 2, 50);
        x.planPrice(0, 0, 1, 40);
        x.planPrice(1, 0, 2, 90);
        x.planPrice(0, 0, 2, 30);
        x.planPrice(1, 0, 2, 95);
        x.planPrice(0, 0, 1, 60);
        x.pass(1);
        check.due("day 1: 40, then 60", x.slot(0, 0, 2), 60);
        check.due("day 1 changes nothing there", x.slot(1, 0, 2), 100);
        x.pass(1);
        check.due("day 2: 50, then 30", x.slot(0, 0, 2), 30);
        check.due("day 2: 90, then 95", x.slot(1, 0, 2), 95);
        check.due("planned()", x.planned(), 0);
    }
}
