/** What "Terms" says of machines: a test for each sentence that names a boundary case or a first value. */
public final class MachineTermsTest {
    private static final Check check = new Check();

    public static void main(String[] args) {
        check.sentence("There are at most 8, numbered from 0 in the order of their creation",
            () -> atMostEight());
        check.sentence("6 products, 0 to 5", () -> sixProducts());
        check.sentence("a capacity (0 at first", () -> firstValue(0, 0));
        check.sentence("then the product is not sold there", () -> notSoldWithoutCapacity());
        check.sentence("a stock (0 at first)", () -> firstStock());
        check.sentence("a price (100 at first)", () -> firstValue(2, 100));
        check.sentence("a demand, the number of pieces that people want each day (0 at first)",
            () -> firstValue(3, 0));
        check.sentence("Each machine has a box for coins, at first empty, with a limit.", () -> firstBox());
        check.sentence("The depot is no machine.", () -> depotIsNoMachine());
        check.sentence("20 as long as it is not set", () -> twentyMinutesAtFirst());
        check.sentence("the same in both directions", () -> sameInBothDirections());
        check.sentence("Sets of machines are told as the sum of the powers 2^k of their numbers k.",
            () -> setsArePowers());
        check.finish();
    }

    private static void atMostEight() {
        VendingRounds x = new VendingRounds();
        for (int k = 0; k < 8; k++) {
            check.due("the number of machine " + k, x.addMachine(200 + k), k);
        }
        for (int k = 0; k < 8; k++) {
            check.due("the limit of machine " + k, x.machine(k, 1), 200 + k);
        }
        check.throwsIt("the ninth machine", Check.STATE, () -> x.addMachine(200));
    }

    private static void sixProducts() {
        VendingRounds x = Make.machines(2);
        for (int p = 0; p <= 5; p++) {
            x.setSlot(1, p, p + 1, p + 10);
        }
        for (int p = 0; p <= 5; p++) {
            check.due("the capacity of product " + p, x.slot(1, p, 0), p + 1);
            check.due("the demand of product " + p, x.slot(1, p, 3), p + 10);
            check.due("the capacity of product " + p + " elsewhere", x.slot(0, p, 0), 0);
        }
        check.due("what lacks of all six", x.machine(1, 2), 1 + 2 + 3 + 4 + 5 + 6);
        check.throwsIt("product 6", Check.INDEX, () -> x.slot(1, 6, 0));
        check.throwsIt("product -1", Check.INDEX, () -> x.slot(1, -1, 0));
    }

    private static void firstValue(int what, int due) {
        VendingRounds x = Make.machines(8);
        for (int k = 0; k < 8; k++) {
            for (int p = 0; p <= 5; p++) {
                check.due("slot(" + k + ", " + p + ", " + what + ")", x.slot(k, p, what), due);
            }
        }
    }

    private static void notSoldWithoutCapacity() {
        VendingRounds x = Make.machines(1);
        x.setSlot(0, 0, 0, 20);
        x.setSlot(0, 1, 1, 20);
        check.due("go(1, 10): room for one piece", x.go(1, 10), 9);
        check.due("the stock without a capacity", x.slot(0, 0, 1), 0);
        check.due("pass(1): the one piece", x.pass(1), 1);
        check.due("sold without a capacity", x.slot(0, 0, 4), 0);
        check.due("sold with a capacity of 1", x.slot(0, 1, 4), 1);
    }

    private static void firstStock() {
        firstValue(1, 0);
        VendingRounds x = Make.machines(1);
        x.setSlot(0, 0, 30, 20);
        check.due("the stock when a capacity is set", x.slot(0, 0, 1), 0);
        check.due("pass(1)", x.pass(1), 0);
    }

    private static void firstBox() {
        VendingRounds x = new VendingRounds();
        x.addMachine(100);
        x.addMachine(100000);
        check.due("the coins in box 0", x.machine(0, 0), 0);
        check.due("the coins in box 1", x.machine(1, 0), 0);
        check.due("the limit of box 0", x.machine(0, 1), 100);
        check.due("the limit of box 1", x.machine(1, 1), 100000);
        x.go(3, 0);
        check.due("the coins of empty boxes", x.total(0), 0);
    }

    private static void depotIsNoMachine() {
        VendingRounds x = Make.machines(2);
        check.throwsIt("setSlot(-1)", Check.INDEX, () -> x.setSlot(-1, 0, 1, 1));
        check.throwsIt("planPrice(-1)", Check.INDEX, () -> x.planPrice(-1, 0, 0, 1));
        check.throwsIt("slot(-1)", Check.INDEX, () -> x.slot(-1, 0, 0));
        check.throwsIt("machine(-1)", Check.INDEX, () -> x.machine(-1, 0));
        check.throwsIt("runsOut(-1)", Check.INDEX, () -> x.runsOut(-1, 0));
        check.due("machineCount()", x.machineCount(), 2);
        check.due("the first place of a round", x.visit(3, 0), 0);
        check.throwsIt("a third place in a round", Check.INDEX, () -> x.visit(3, 2));
    }

    private static void twentyMinutesAtFirst() {
        VendingRounds x = Make.machines(7);
        x.setMinutes(-1, 3, 1);
        x.setMinutes(3, 5, 200);
        x.addMachine(100);
        for (int a = -1; a < 8; a++) {
            for (int b = a + 1; b < 8; b++) {
                boolean set = b == 3 && a == -1 || a == 3 && b == 5;
                int minutes = 30 + a + b;
                if (!set) {
                    check.due("setMinutes(" + a + ", " + b + ")", x.setMinutes(a, b, minutes), 20);
                }
            }
        }
        check.due("drive(255) where nothing is set", Make.machines(8).drive(255), 9 * 20);
    }

    private static void sameInBothDirections() {
        VendingRounds x = Make.machines(3);
        x.setMinutes(-1, 0, 5);
        x.setMinutes(1, -1, 6);
        x.setMinutes(0, 1, 7);
        x.setMinutes(2, 1, 8);
        check.due("there and back, set from the depot", x.drive(1), 10);
        check.due("there and back, set to the depot", x.drive(2), 12);
        check.due("setMinutes(0, -1)", x.setMinutes(0, -1, 5), 5);
        check.due("setMinutes(-1, 1)", x.setMinutes(-1, 1, 6), 6);
        check.due("setMinutes(1, 0)", x.setMinutes(1, 0, 7), 7);
        check.due("setMinutes(1, 2)", x.setMinutes(1, 2, 9), 8);
        check.due("setMinutes(2, 1)", x.setMinutes(2, 1, 9), 9);
        check.due("setMinutes(0, 2), not set", x.setMinutes(0, 2, 9), 20);
    }

    private static void setsArePowers() {
        VendingRounds x = Make.machines(8);
        int[] powers = {1, 2, 4, 8, 16, 32, 64, 128};
        for (int k = 0; k < 8; k++) {
            x.setMinutes(-1, k, 101 + k);
        }
        for (int k = 0; k < 8; k++) {
            check.due("drive(" + powers[k] + ")", x.drive(powers[k]), 2 * (101 + k));
            check.due("visit(" + powers[k] + ", 0)", x.visit(powers[k], 0), k);
        }
        check.due("drive(129): machines 0 and 7", x.drive(129), 101 + 20 + 108);
    }
}
