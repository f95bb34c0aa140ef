/** Promises 13 to 20: the calls for rounds. */
public final class RoundsTest {
    private static final Check check = new Check();

    public static void main(String[] args) {
        driveAndVisit();
        orderOfSeveral();
        directWaysOnly();
        minutes();
        bestByGain();
        bestOfEqualGains();
        go();
        goWithTooLittle();
        filled();
        digest();
        check.finish();
    }

    private static VendingRounds withMachines(int count) {
        VendingRounds x = new VendingRounds();
        for (int k = 0; k < count; k++) {
            x.addMachine(100000);
        }
        return x;
    }

    // Promises 13 and 14
    private static void driveAndVisit() {
        VendingRounds x = withMachines(4);
        check.due("drive(0)", x.drive(0), 0);
        x.setMinutes(-1, 3, 5);
        x.setMinutes(3, 1, 4);
        x.setMinutes(1, 2, 3);
        x.setMinutes(2, 0, 2);
        x.setMinutes(0, -1, 6);
        check.due("drive(15)", x.drive(15), 5 + 4 + 3 + 2 + 6);
        int[] order = {0, 2, 1, 3};
        for (int index = 0; index < 4; index++) {
            check.due("visit(15, " + index + ")", x.visit(15, index), order[index]);
        }
        check.due("drive(8)", x.drive(8), 10);
        check.due("visit(8, 0)", x.visit(8, 0), 3);
        check.due("drive(10)", x.drive(10), 5 + 4 + 20);
        check.due("visit(10, 0)", x.visit(10, 0), 1);
        check.due("visit(10, 1)", x.visit(10, 1), 3);
    }

    // Promise 14: of several orders the one whose first machine has the smallest number, and so on.
    private static void orderOfSeveral() {
        VendingRounds x = withMachines(8);
        for (int index = 0; index < 8; index++) {
            check.due("all alike: visit(255, " + index + ")", x.visit(255, index), index);
        }
        // 0 first, then 3 must follow at once: 0-3 is short, the rest is alike.
        x.setMinutes(0, 3, 1);
        int[] order = {0, 3, 1, 2, 4, 5, 6, 7};
        for (int index = 0; index < 8; index++) {
            check.due("visit(255, " + index + ")", x.visit(255, index), order[index]);
        }
        check.due("drive(255)", x.drive(255), 161);
        // 0 stands neither first nor last any more: its way from the depot is long.
        x.setMinutes(-1, 0, 200);
        int[] then = {1, 0, 3, 2, 4, 5, 6, 7};
        for (int index = 0; index < 8; index++) {
            check.due("0 far: visit(255, " + index + ")", x.visit(255, index), then[index]);
        }
        check.due("drive(255)", x.drive(255), 161);
    }

    // Promise 13: each machine is visited once, so no way leads through a machine twice.
    private static void directWaysOnly() {
        VendingRounds x = withMachines(3);
        x.setMinutes(-1, 0, 1);
        x.setMinutes(0, 1, 1);
        x.setMinutes(0, 2, 1);
        x.setMinutes(1, -1, 100);
        x.setMinutes(2, -1, 100);
        x.setMinutes(1, 2, 100);
        check.due("drive(2)", x.drive(2), 200);
        check.due("drive(3)", x.drive(3), 102);
        check.due("drive(6)", x.drive(6), 300);
        check.due("drive(7)", x.drive(7), 1 + 1 + 100 + 100);
        check.due("visit(7, 0)", x.visit(7, 0), 0);
        check.due("visit(7, 1)", x.visit(7, 1), 1);
        check.due("visit(7, 2)", x.visit(7, 2), 2);
    }

    // Promise 15
    private static void minutes() {
        VendingRounds x = withMachines(2);
        check.due("minutes(0)", x.minutes(0), 0);
        check.due("nothing lacks", x.minutes(1), 43);
        int[] capacities = {1, 4, 5, 6, 10, 11, 30};
        int[] due = {44, 44, 44, 45, 45, 46, 49};
        for (int k = 0; k < capacities.length; k++) {
            x.setSlot(0, 0, capacities[k], 0);
            check.due("minutes(1), " + capacities[k] + " lack", x.minutes(1), due[k]);
        }
        // The pieces of all products of a machine count together, those of each machine alone.
        x.setSlot(0, 0, 3, 0);
        x.setSlot(0, 1, 3, 0);
        x.setSlot(1, 5, 4, 0);
        check.due("minutes(1), 3 and 3 lack", x.minutes(1), 40 + 3 + 2);
        check.due("minutes(3)", x.minutes(3), 60 + 3 + 2 + 3 + 1);
        x.go(1, 1);
        check.due("minutes(1), 5 lack", x.minutes(1), 40 + 3 + 1);
        x.setMinutes(-1, 0, 7);
        check.due("minutes(1), nearer", x.minutes(1), 14 + 3 + 1);
    }

    // Promise 16
    private static void bestByGain() {
        VendingRounds x = withMachines(3);
        x.setSlot(0, 0, 10, 0);
        x.setSlot(1, 0, 4, 10);
        x.setSlot(2, 0, 6, 0);
        x.planPrice(2, 0, 0, 200);
        check.due("all of them", x.best(5000, 2000), 7);
        check.due("load for one", x.best(5000, 6), 4);
        check.due("load for two, 12 is more than 10", x.best(5000, 10), 6);
        check.due("load 16", x.best(5000, 16), 5);
        check.due("load 3", x.best(5000, 3), 0);
        x.go(2, 4);
        x.pass(1);
        // Machine 1: 4 sold at 100; it lacks 4, so its gain is 800 in all.
        check.due("coins count", x.machine(1, 3), 800);
        check.due("load 8, coins count", x.best(5000, 8), 4);
        x.planPrice(1, 0, 1, 300);
        check.due("load 8, higher price", x.best(5000, 8), 2);
        VendingRounds poor = withMachines(2);
        poor.setSlot(1, 0, 1, 0);
        poor.planPrice(1, 0, 0, 1);
        check.due("a gain of 1", poor.best(5000, 2000), 2);
    }

    // Promise 16
    private static void bestOfEqualGains() {
        VendingRounds x = withMachines(4);
        check.due("no gain at all: least minutes", x.best(5000, 2000), 0);
        x.setSlot(1, 0, 5, 0);
        x.setSlot(2, 0, 5, 0);
        check.due("equal gains and minutes: the smallest number", x.best(50, 5), 2);
        x.setMinutes(-1, 2, 19);
        check.due("equal gains: the least minutes", x.best(50, 5), 4);
        x.setMinutes(-1, 2, 20);
        check.due("no machine without a gain", x.best(5000, 10), 6);
        // 0 and 3 give nothing, but the way to 1 through them is shorter.
        x.setMinutes(-1, 1, 200);
        x.setMinutes(-1, 2, 200);
        x.setMinutes(-1, 3, 1);
        x.setMinutes(3, 1, 1);
        check.due("machines without a gain may shorten it", x.best(5000, 5), 11);
    }

    // Promises 17 and 18
    private static void go() {
        VendingRounds x = withMachines(3);
        x.setSlot(0, 0, 6, 5);
        x.setSlot(2, 1, 7, 1);
        check.due("go(5, 100)", x.go(5, 100), 87);
        check.due("stock", x.slot(0, 0, 1), 6);
        check.due("stock", x.slot(2, 1, 1), 7);
        check.due("minutes of what lacked before", x.total(1), 60 + 3 + 2 + 3 + 2);
        check.due("pieces", x.total(2), 13);
        x.pass(1);
        check.due("go(4, 2000)", x.go(4, 2000), 1999);
        check.due("only its coins", x.total(0), 100);
        check.due("the box of 2 is empty", x.machine(2, 0), 0);
        check.due("the box of 0 is not", x.machine(0, 0), 500);
        check.due("go(3, 0)", x.go(3, 0), 0);
        check.due("coins", x.total(0), 600);
        check.due("the box of 0 is empty", x.machine(0, 0), 0);
        check.due("stock stays without a load", x.slot(0, 0, 1), 1);
        int[] visits = {2, 1, 2};
        for (int k = 0; k < 3; k++) {
            check.due("visits of " + k, x.machine(k, 4), visits[k]);
        }
        check.due("rounds", x.total(3), 3);
        check.due("minutes", x.total(1), 70 + 44 + 60 + 3 + 1 + 3);
    }

    // Promise 17: the load lasts in the order of the round, and in ascending order of the products.
    private static void goWithTooLittle() {
        VendingRounds x = withMachines(3);
        x.setMinutes(-1, 0, 50);
        x.setMinutes(0, 1, 1);
        x.setSlot(0, 0, 10, 1);
        x.setSlot(1, 2, 10, 1);
        x.setSlot(1, 4, 10, 1);
        x.setSlot(2, 0, 10, 1);
        // Its order is 1, 0, 2 or 2, 0, 1 with 20 + 1 + 20 + 20: the first of them.
        check.due("visit(7, 0)", x.visit(7, 0), 1);
        check.due("visit(7, 1)", x.visit(7, 1), 0);
        check.due("visit(7, 2)", x.visit(7, 2), 2);
        int due = x.minutes(7);
        check.due("go(7, 14)", x.go(7, 14), 0);
        check.due("product 2 of machine 1", x.slot(1, 2, 1), 10);
        check.due("product 4 of machine 1", x.slot(1, 4, 1), 4);
        check.due("machine 0", x.slot(0, 0, 1), 0);
        check.due("machine 2", x.slot(2, 0, 1), 0);
        check.due("all minutes", x.total(1), due);
        for (int k = 0; k < 3; k++) {
            check.due("visits of " + k, x.machine(k, 4), 1);
        }
        check.due("go(7, 17)", x.go(7, 17), 0);
        check.due("product 4 of machine 1", x.slot(1, 4, 1), 10);
        check.due("machine 0", x.slot(0, 0, 1), 10);
        check.due("machine 2", x.slot(2, 0, 1), 1);
        check.due("pieces", x.total(2), 31);
    }

    // Promise 19
    private static void filled() {
        VendingRounds x = withMachines(2);
        check.dueDouble("no capacity", x.filled(), 1.0);
        x.setSlot(0, 0, 3, 1);
        check.dueDouble("empty", x.filled(), 0.0);
        x.setSlot(1, 5, 4, 1);
        x.go(1, 3);
        check.dueDouble("3 of 7", x.filled(), 3.0 / 7.0);
        x.go(2, 3);
        check.dueDouble("6 of 7", x.filled(), 6.0 / 7.0);
        x.go(2, 3);
        check.dueDouble("7 of 7", x.filled(), 1.0);
        x.pass(1);
        check.dueDouble("5 of 7", x.filled(), 5.0 / 7.0);
        x.setSlot(0, 0, 0, 0);
        x.setSlot(1, 5, 0, 0);
        check.dueDouble("no capacity again", x.filled(), 1.0);
    }

    private static long folded(long... numbers) {
        long d = 211;
        for (long x : numbers) {
            d = d * 31 + x;
        }
        return d;
    }

    // Promise 20
    private static void digest() {
        VendingRounds x = new VendingRounds();
        check.due("digest of a new object", x.digest(), folded(0, 0, 0, 0, 0, 0, 0));
        x.addMachine(500);
        x.addMachine(100000);
        x.addMachine(900);
        x.setMinutes(-1, 1, 11);
        x.setMinutes(2, 0, 12);
        x.setMinutes(1, 2, 13);
        x.setSlot(0, 1, 8, 3);
        x.planPrice(0, 1, 0, 90);
        x.planPrice(0, 1, 1, 95);
        x.planPrice(2, 5, 9, 70);
        x.go(1, 5);
        x.pass(2);
        x.go(4, 7);
        check.due("digest", x.digest(), folded(
            2, 3,
            20, 11, 20, 20, 12, 13,
            // machine 0: 3 sold at 90, 2 at 95, one lost.
            460, 500, 8, 8 * 95 + 460, 1,
            0, 0, 100, 0, 0, 0, 8, 0, 95, 3, 5, 1, 0, 0, 100, 0, 0, 0,
            0, 0, 100, 0, 0, 0, 0, 0, 100, 0, 0, 0, 0, 0, 100, 0, 0, 0,
            0, 100000, 0, 0, 0,
            0, 0, 100, 0, 0, 0, 0, 0, 100, 0, 0, 0, 0, 0, 100, 0, 0, 0,
            0, 0, 100, 0, 0, 0, 0, 0, 100, 0, 0, 0, 0, 0, 100, 0, 0, 0,
            0, 900, 0, 0, 1,
            0, 0, 100, 0, 0, 0, 0, 0, 100, 0, 0, 0, 0, 0, 100, 0, 0, 0,
            0, 0, 100, 0, 0, 0, 0, 0, 100, 0, 0, 0, 0, 0, 100, 0, 0, 0,
            1,
            0, 45 + 43, 5, 2));
    }
}
