/** What "Terms" says of rounds: a test for each sentence that names a boundary case. */
public final class RoundTermsTest {
    private static final Check check = new Check();

    public static void main(String[] args) {
        drivesAndOrders();
        minutesAndGains();
        bestRounds();
        roundsThatAreMade();
        check.sentence("An object is used for at most 512 calls after it has been made", () -> lastCall());
        check.finish();
    }

    private static void drivesAndOrders() {
        check.sentence("it begins and ends at the depot", () -> fromDepotToDepot());
        check.sentence("the least number of minutes in which all machines of the set can be visited",
            () -> leastMinutes());
        check.sentence("each one once", () -> eachOnce());
        check.sentence("of several the one whose first machine has the smallest number", () -> smallestFirst());
        check.sentence("then the one whose second machine has", () -> smallestSecond());
        check.sentence("and so on", () -> smallestBehindThese());
    }

    private static void minutesAndGains() {
        check.sentence("A visit takes 3 minutes", () -> visitsTakeThree());
        check.sentence("1 minute for each 5 pieces, or a part of 5, that the machine lacks", () -> partsOfFive());
        check.sentence("(its capacities less its stocks, all together)", () -> lacksAllTogether());
        check.sentence("The minutes of a round are its drive and the minutes of the visits.", () -> allMinutes());
        check.sentence("(The set without machines has 0 minutes.)", () -> emptySetHasNoMinutes());
        check.sentence("the sum of the prices of the pieces that it lacks, and the coins in its box", () -> gains());
    }

    private static void bestRounds() {
        check.sentence("the set of machines with the greatest sum of gains", () -> greatestGain());
        check.sentence("those whose minutes are not more than the limit", () -> limitOfMinutes());
        check.sentence("which lack not more pieces than the load, all together", () -> loadForAll());
        check.sentence("of several the one with the least minutes", () -> leastMinutesOfSeveral());
        check.sentence("of several the one that is told by the smallest number", () -> smallestNumberOfSeveral());
    }

    private static void roundsThatAreMade() {
        check.sentence("its machines are visited in its order", () -> visitedInOrder());
        check.sentence("at each one the box is emptied", () -> boxesAreEmptied());
        check.sentence("products are filled up in ascending order of their numbers", () -> filledAscending());
        check.sentence("as far as the load lasts", () -> asFarAsTheLoadLasts());
        check.sentence("It takes the minutes of the round, also if the load does not last.",
            () -> minutesWithoutLoad());
        check.sentence("A round without machines counts as one, too.", () -> emptyRoundCounts());
    }

    private static void orderIs(String what, VendingRounds x, int set, int... order) {
        for (int index = 0; index < order.length; index++) {
            check.due(what + ": visit(" + set + ", " + index + ")", x.visit(set, index), order[index]);
        }
    }

    private static void fromDepotToDepot() {
        VendingRounds x = Make.machines(2);
        x.setMinutes(-1, 0, 3);
        x.setMinutes(-1, 1, 50);
        x.setMinutes(0, 1, 7);
        check.due("drive(1)", x.drive(1), 3 + 3);
        check.due("drive(2)", x.drive(2), 50 + 50);
        check.due("drive(3)", x.drive(3), 3 + 7 + 50);
    }

    private static void leastMinutes() {
        VendingRounds x = Make.machines(3);
        x.setMinutes(-1, 2, 1);
        x.setMinutes(2, 0, 9);
        x.setMinutes(0, 1, 2);
        x.setMinutes(1, -1, 3);
        check.due("drive(7)", x.drive(7), 1 + 9 + 2 + 3);
        // The nearest machine first is not always the least: 1 + 200 + 20 + 20 against 20 + 19 + 20 + 1.
        VendingRounds y = Make.machines(3);
        y.setMinutes(-1, 0, 1);
        y.setMinutes(0, 1, 200);
        y.setMinutes(1, 2, 19);
        check.due("drive(7), 0 last", y.drive(7), 20 + 19 + 20 + 1);
    }

    private static void eachOnce() {
        VendingRounds x = Make.machines(3);
        x.setMinutes(-1, 1, 200);
        x.setMinutes(-1, 2, 200);
        x.setMinutes(-1, 0, 1);
        x.setMinutes(0, 1, 1);
        x.setMinutes(0, 2, 1);
        x.setMinutes(1, 2, 200);
        check.due("drive(2): not by way of 0", x.drive(2), 400);
        check.due("drive(6): not by way of 0", x.drive(6), 600);
        check.due("drive(7): 0 only once", x.drive(7), 1 + 1 + 200 + 200);
        check.due("drive(3): 0 not on the way back", x.drive(3), 1 + 1 + 200);
    }

    private static void smallestFirst() {
        // 0 stands in the middle of each shortest order: 1, 0, 2 and 2, 0, 1.
        VendingRounds x = Make.machines(3);
        x.setMinutes(-1, 0, 90);
        orderIs("0 far", x, 7, 1, 0, 2);
        orderIs("two alike", x, 6, 1, 2);
        orderIs("two alike, 0 far", x, 5, 0, 2);
        // 3, 0, 1, 2 and 2, 1, 0, 3: the sum of the numbers does not matter, only the first.
        VendingRounds y = Make.machines(4);
        y.setMinutes(-1, 2, 1);
        y.setMinutes(-1, 3, 1);
        y.setMinutes(2, 1, 1);
        y.setMinutes(1, 0, 1);
        y.setMinutes(0, 3, 1);
        orderIs("a ring", y, 15, 2, 1, 0, 3);
    }

    private static void smallestSecond() {
        VendingRounds all = Make.machines(4);
        orderIs("all alike", all, 15, 0, 1, 2, 3);
        orderIs("all alike, without 1", all, 13, 0, 2, 3);
        // From 0 on, 1 must not be second: 0, 2, 1, 3 and 0, 3, 1, 2 are alike.
        VendingRounds x = Make.machines(4);
        x.setMinutes(0, 1, 30);
        x.setMinutes(-1, 1, 30);
        x.setMinutes(2, 3, 30);
        check.due("drive(15)", x.drive(15), 100);
        orderIs("0, then 2 or 3", x, 15, 0, 2, 1, 3);
    }

    private static void smallestBehindThese() {
        VendingRounds all = Make.machines(8);
        orderIs("all alike", all, 255, 0, 1, 2, 3, 4, 5, 6, 7);
        // 0 to 4 in a row, then 5, 6, 7 in any order, as 5 is no nearer to 4 than the others.
        VendingRounds x = Make.machines(8);
        x.setMinutes(-1, 0, 1);
        for (int k = 0; k < 4; k++) {
            x.setMinutes(k, k + 1, 1);
        }
        orderIs("the last three alike", x, 255, 0, 1, 2, 3, 4, 5, 6, 7);
        x.setMinutes(4, 5, 21);
        orderIs("5 a little farther from 4", x, 255, 0, 1, 2, 3, 4, 6, 5, 7);
        x.setMinutes(-1, 7, 21);
        orderIs("7 a little farther from the depot", x, 255, 0, 1, 2, 3, 4, 6, 7, 5);
    }

    private static void visitsTakeThree() {
        VendingRounds x = Make.machines(8);
        check.due("minutes(1), nothing lacks", x.minutes(1), 40 + 3);
        check.due("minutes(255), nothing lacks", x.minutes(255), 180 + 8 * 3);
    }

    private static void partsOfFive() {
        VendingRounds x = Make.machines(1);
        int[] pieces = {0, 1, 4, 5, 6, 9, 10, 11, 29, 30};
        int[] due = {0, 1, 1, 1, 2, 2, 2, 3, 6, 6};
        for (int k = 0; k < pieces.length; k++) {
            x.setSlot(0, 0, pieces[k], 0);
            check.due("minutes(1), " + pieces[k] + " lack", x.minutes(1), 43 + due[k]);
        }
        for (int p = 0; p <= 5; p++) {
            x.setSlot(0, p, 30, 0);
        }
        check.due("minutes(1), 180 lack", x.minutes(1), 43 + 36);
        x.go(1, 4);
        check.due("minutes(1), 176 lack", x.minutes(1), 43 + 36);
        x.go(1, 1);
        check.due("minutes(1), 175 lack", x.minutes(1), 43 + 35);
    }

    private static void lacksAllTogether() {
        VendingRounds x = Make.machines(2);
        x.setSlot(0, 0, 2, 0);
        x.setSlot(0, 5, 3, 0);
        check.due("minutes(1), 2 and 3 lack: one part of 5", x.minutes(1), 43 + 1);
        x.setSlot(0, 5, 4, 0);
        check.due("minutes(1), 2 and 4 lack", x.minutes(1), 43 + 2);
        x.setSlot(0, 5, 1, 0);
        x.setSlot(1, 0, 2, 0);
        check.due("minutes(3), 3 and 2 lack: a part for each machine", x.minutes(3), 60 + 3 + 1 + 3 + 1);
        x.go(1, 3);
        check.due("minutes(1), all in stock", x.minutes(1), 43);
        check.due("machine(0, 2), all in stock", x.machine(0, 2), 0);
    }

    private static void allMinutes() {
        VendingRounds x = Make.machines(2);
        x.setMinutes(-1, 0, 1);
        x.setMinutes(-1, 1, 2);
        x.setMinutes(0, 1, 200);
        x.setSlot(0, 0, 6, 0);
        check.due("minutes(1)", x.minutes(1), 2 + 3 + 2);
        check.due("minutes(2)", x.minutes(2), 4 + 3);
        check.due("minutes(3)", x.minutes(3), 203 + 3 + 2 + 3);
    }

    private static void emptySetHasNoMinutes() {
        check.due("minutes(0) without machines", new VendingRounds().minutes(0), 0);
        check.due("drive(0) without machines", new VendingRounds().drive(0), 0);
        VendingRounds x = Make.stocked(1000, 5, 5);
        x.setSlot(0, 1, 30, 0);
        check.due("minutes(0) with a machine", x.minutes(0), 0);
        check.due("drive(0) with a machine", x.drive(0), 0);
    }

    private static void gains() {
        VendingRounds x = Make.stocked(100000, 10, 4);
        check.due("nothing lacks, no coins", x.machine(0, 3), 0);
        x.planPrice(0, 0, 0, 30);
        x.pass(1);
        check.due("4 lack at 30, and 120 coins", x.machine(0, 3), 240);
        x.planPrice(0, 0, 1, 1);
        check.due("4 lack at 1, and 120 coins", x.machine(0, 3), 124);
        x.setSlot(0, 0, 6, 0);
        check.due("coins alone", x.machine(0, 3), 120);
        x.setSlot(0, 1, 3, 0);
        x.setSlot(0, 5, 2, 0);
        x.planPrice(0, 5, 1, 7);
        check.due("products 1 and 5 at their own prices", x.machine(0, 3), 120 + 300 + 14);
        x.go(1, 0);
        check.due("pieces alone", x.machine(0, 3), 314);
        for (int p = 0; p <= 5; p++) {
            x.setSlot(0, p, 0, 0);
            x.setSlot(0, p, 30, 0);
            x.planPrice(0, p, 1, 1000);
        }
        check.due("the greatest gain without coins", x.machine(0, 3), 6 * 30 * 1000);
    }

    private static void greatestGain() {
        VendingRounds x = Make.machines(3);
        x.setSlot(0, 0, 10, 0);
        x.setSlot(1, 0, 5, 0);
        x.setSlot(2, 0, 6, 0);
        x.planPrice(1, 0, 0, 119);
        check.due("best(5000, 2000): all", x.best(5000, 2000), 7);
        check.due("best(5000, 10): 1000 against 595 or 600", x.best(5000, 10), 1);
        check.due("best(5000, 11): 595 and 600 against 1000", x.best(5000, 11), 6);
        x.planPrice(1, 0, 0, 1);
        x.planPrice(2, 0, 0, 1);
        check.due("best(5000, 5): a gain of 5", x.best(5000, 5), 2);
        x.setSlot(1, 0, 1, 0);
        check.due("best(5000, 5): a gain of 1", x.best(5000, 5), 2);
        VendingRounds coins = Make.stocked(100000, 3, 3);
        coins.pass(1);
        coins.setSlot(0, 0, 0, 0);
        check.due("best(5000, 0): coins alone", coins.best(5000, 0), 1);
    }

    private static void limitOfMinutes() {
        VendingRounds x = Make.machines(2);
        x.setSlot(0, 0, 10, 0);
        x.setSlot(1, 0, 5, 0);
        check.due("best(69, 2000): just the minutes of both", x.best(60 + 5 + 4, 2000), 3);
        check.due("best(68, 2000)", x.best(68, 2000), 1);
        check.due("best(45, 2000): just the minutes of 0", x.best(45, 2000), 1);
        check.due("best(44, 2000): just the minutes of 1", x.best(44, 2000), 2);
        check.due("best(43, 2000): only the set without machines", x.best(43, 2000), 0);
        check.due("best(0, 2000)", x.best(0, 2000), 0);
    }

    private static void loadForAll() {
        VendingRounds x = Make.machines(2);
        x.setSlot(0, 0, 10, 0);
        x.setSlot(1, 0, 5, 0);
        check.due("best(5000, 15): just what both lack", x.best(5000, 15), 3);
        check.due("best(5000, 14)", x.best(5000, 14), 1);
        check.due("best(5000, 10): just what 0 lacks", x.best(5000, 10), 1);
        check.due("best(5000, 9)", x.best(5000, 9), 2);
        check.due("best(5000, 5): just what 1 lacks", x.best(5000, 5), 2);
        check.due("best(5000, 4): only the set without machines", x.best(5000, 4), 0);
        check.due("best(5000, 0)", x.best(5000, 0), 0);
    }

    private static void leastMinutesOfSeveral() {
        VendingRounds x = Make.machines(3);
        check.due("no gain at all: the set without machines", x.best(5000, 2000), 0);
        x.setSlot(0, 0, 5, 0);
        x.setSlot(1, 0, 5, 0);
        x.setMinutes(-1, 0, 21);
        check.due("0 and 1 with the same gain, 0 farther", x.best(5000, 5), 2);
        check.due("2 has no gain and would take minutes", x.best(5000, 10), 3);
        x.setMinutes(-1, 1, 22);
        check.due("0 and 1 with the same gain, 1 farther", x.best(5000, 5), 1);
        // 2 has no gain, but with it the way is shorter: 5 + 5 + 21 + 3 + 4 minutes against 21 + 21 + 4.
        x.setMinutes(-1, 2, 5);
        x.setMinutes(2, 0, 5);
        check.due("2 has no gain, but makes it shorter", x.best(5000, 5), 5);
        x.planPrice(1, 0, 0, 101);
        check.due("1 with more gain, though with more minutes", x.best(5000, 5), 2);
    }

    private static void smallestNumberOfSeveral() {
        VendingRounds x = Make.machines(3);
        for (int k = 0; k < 3; k++) {
            x.setSlot(k, 0, 5, 0);
        }
        check.due("three alike: 1, 2 or 4", x.best(5000, 5), 1);
        check.due("three pairs alike: 3, 5 or 6", x.best(5000, 10), 3);
        // 0 and 1 together give what 2 gives, in the same minutes: 10 + 10 + 10 + 4 + 4 and 17 + 17 + 4.
        VendingRounds y = Make.machines(3);
        y.setSlot(0, 0, 1, 0);
        y.setSlot(1, 0, 1, 0);
        y.setSlot(2, 0, 2, 0);
        y.setMinutes(-1, 0, 10);
        y.setMinutes(-1, 1, 10);
        y.setMinutes(0, 1, 10);
        y.setMinutes(-1, 2, 17);
        check.due("minutes(3)", y.minutes(3), 38);
        check.due("minutes(4)", y.minutes(4), 38);
        check.due("3 is smaller than 4, though it has more machines", y.best(5000, 2), 3);
        y.setMinutes(-1, 2, 16);
        check.due("the least minutes come before the number", y.best(5000, 2), 4);
    }

    private static void visitedInOrder() {
        VendingRounds x = Make.machines(3);
        for (int k = 0; k < 3; k++) {
            x.setSlot(k, 0, 10, 0);
        }
        x.setMinutes(-1, 0, 90);
        orderIs("0 far", x, 7, 1, 0, 2);
        x.go(7, 15);
        check.due("1, the first of the round", x.slot(1, 0, 1), 10);
        check.due("0, the second", x.slot(0, 0, 1), 5);
        check.due("2, the last", x.slot(2, 0, 1), 0);
        for (int k = 0; k < 3; k++) {
            check.due("visits of " + k, x.machine(k, 4), 1);
        }
        x.go(5, 0);
        check.due("visits of 0, again", x.machine(0, 4), 2);
        check.due("visits of 1, not in the set", x.machine(1, 4), 1);
        check.due("visits of 2, again", x.machine(2, 4), 2);
    }

    private static void boxesAreEmptied() {
        VendingRounds x = Make.machines(3);
        for (int k = 0; k < 3; k++) {
            x.setSlot(k, 0, 10, k + 1);
        }
        x.go(7, 30);
        x.pass(1);
        check.due("go(5, 0)", x.go(5, 0), 0);
        check.due("the box of 0", x.machine(0, 0), 0);
        check.due("the box of 1, not in the set", x.machine(1, 0), 200);
        check.due("the box of 2", x.machine(2, 0), 0);
        check.due("the coins brought home", x.total(0), 100 + 300);
        x.go(5, 0);
        check.due("the coins of empty boxes", x.total(0), 400);
        // A full box has its room again.
        VendingRounds full = Make.stocked(100, 10, 2);
        full.pass(2);
        check.due("sold until the box is full", full.slot(0, 0, 4), 1);
        full.go(1, 0);
        full.pass(1);
        check.due("sold when it has been emptied", full.slot(0, 0, 4), 2);
    }

    private static void filledAscending() {
        VendingRounds x = Make.machines(1);
        for (int p = 0; p <= 5; p++) {
            x.setSlot(0, p, 10, 0);
        }
        x.go(1, 25);
        int[] stocks = {10, 10, 5, 0, 0, 0};
        for (int p = 0; p <= 5; p++) {
            check.due("the stock of product " + p, x.slot(0, p, 1), stocks[p]);
        }
        x.go(1, 34);
        check.due("the stock of product 5, one too few", x.slot(0, 5, 1), 9);
    }

    private static void asFarAsTheLoadLasts() {
        int[] loads = {0, 1, 14, 15, 16, 2000};
        for (int load : loads) {
            VendingRounds x = Make.machines(2);
            x.setSlot(0, 0, 10, 0);
            x.setSlot(1, 5, 5, 0);
            int filled = Math.min(load, 15);
            check.due("go(3, " + load + ")", x.go(3, load), load - filled);
            check.due("the stock of 0 then", x.slot(0, 0, 1), Math.min(filled, 10));
            check.due("the stock of 1 then", x.slot(1, 5, 1), Math.max(filled - 10, 0));
            check.due("the pieces that were filled in", x.total(2), filled);
            check.due("visits of 1", x.machine(1, 4), 1);
        }
    }

    private static void minutesWithoutLoad() {
        int[] loads = {0, 4, 10, 2000};
        for (int load : loads) {
            VendingRounds x = Make.machines(1);
            x.setSlot(0, 0, 10, 0);
            x.go(1, load);
            check.due("the minutes of go(1, " + load + ")", x.total(1), 40 + 3 + 2);
        }
    }

    private static void emptyRoundCounts() {
        VendingRounds none = new VendingRounds();
        check.due("go(0, 7) without machines", none.go(0, 7), 7);
        check.due("its rounds", none.total(3), 1);
        VendingRounds x = Make.stocked(100000, 5, 5);
        x.pass(1);
        check.due("go(0, 2000)", x.go(0, 2000), 2000);
        check.due("the rounds, with that of before", x.total(3), 2);
        check.due("its minutes", x.total(1), 40 + 3 + 1);
        check.due("its pieces", x.total(2), 5);
        check.due("its coins", x.total(0), 0);
        check.due("the box stays", x.machine(0, 0), 500);
        check.due("the stock stays", x.slot(0, 0, 1), 0);
        check.due("the visits stay", x.machine(0, 4), 1);
    }

    private static void lastCall() {
        VendingRounds x = new VendingRounds();
        for (int call = 1; call < 512; call++) {
            x.go(0, 2000);
        }
        check.due("total(3) as the 512th call", x.total(3), 511);
    }
}
