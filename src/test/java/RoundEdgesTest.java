import java.math.BigInteger;

/** Promises 13 to 20: a test for each sentence that names a boundary case or a refused call. */
public final class RoundEdgesTest {
    private static final String NO_MACHINE =
        ": IllegalArgumentException if machines contains something that is no machine";

    private static final Check check = new Check();

    private interface SetCall {
        long answer(VendingRounds x, int machines);
    }

    public static void main(String[] args) {
        sets();
        check.sentence("a place in the order of its round, from 0", () -> placesFromZero());
        check.sentence("Throws `IndexOutOfBoundsException` if there is no such place", () -> noSuchPlace());
        best();
        go();
        totals();
        check.sentence("Returns the sum of all stocks, divided by the sum of all capacities", () -> filled());
        check.sentence("1 if this is 0", () -> filledWithoutCapacities());
        digest();
        check.finish();
    }

    // Promises 13, 14, 15 and 17

    private static void sets() {
        check.sentence("drive" + NO_MACHINE, () -> noSet("drive", (x, set) -> x.drive(set)));
        check.sentence("visit" + NO_MACHINE, () -> noSet("visit", (x, set) -> x.visit(set, 0)));
        check.sentence("minutes" + NO_MACHINE, () -> noSet("minutes", (x, set) -> x.minutes(set)));
        check.sentence("go" + NO_MACHINE, () -> noSet("go", (x, set) -> x.go(set, 5)));
    }

    private static void noSet(String name, SetCall call) {
        VendingRounds none = new VendingRounds();
        check.refused(name + " of 1, without machines", none, Check.ARGUMENT, () -> call.answer(none, 1));
        check.refused(name + " of -1, without machines", none, Check.ARGUMENT, () -> call.answer(none, -1));
        int[] counts = {1, 3, 7, 8};
        for (int count : counts) {
            noSetAmong(count, name, call);
        }
    }

    private static void noSetAmong(int count, String name, SetCall call) {
        VendingRounds x = Make.machines(count);
        int all = (1 << count) - 1;
        int[] wrong = {all + 1, all + 2, 2 * all + 1, 1 << 30, -1, -2, Integer.MAX_VALUE,
            Integer.MIN_VALUE, Integer.MIN_VALUE + 1, Integer.MIN_VALUE + all};
        for (int set : wrong) {
            check.refused(name + " of " + set + ", " + count + " machines", x, Check.ARGUMENT,
                () -> call.answer(x, set));
        }
        call.answer(x, 1);
        call.answer(x, 1 << (count - 1));
        call.answer(x, all);
    }

    // Promise 14

    private static void placesFromZero() {
        VendingRounds x = Make.machines(8);
        x.setMinutes(-1, 3, 1);
        x.setMinutes(-1, 6, 2);
        for (int index = 0; index < 8; index++) {
            int[] order = {3, 0, 1, 2, 4, 5, 7, 6};
            check.due("visit(255, " + index + ")", x.visit(255, index), order[index]);
        }
        check.due("visit(128, 0)", x.visit(128, 0), 7);
        check.due("visit(72, 0)", x.visit(72, 0), 3);
        check.due("visit(72, 1)", x.visit(72, 1), 6);
    }

    private static void noSuchPlace() {
        VendingRounds x = Make.machines(8);
        int[] sets = {1, 5, 128, 255};
        for (int set : sets) {
            for (int index : Make.outside(0, Integer.bitCount(set) - 1)) {
                check.refused("visit(" + set + ", " + index + ")", x, Check.INDEX, () -> x.visit(set, index));
            }
        }
        int[] places = {-1, 0, 1};
        for (int index : places) {
            check.refused("visit(0, " + index + ")", x, Check.INDEX, () -> x.visit(0, index));
        }
        VendingRounds none = new VendingRounds();
        check.refused("visit(0, 0) without machines", none, Check.INDEX, () -> none.visit(0, 0));
    }

    // Promise 16

    private static void best() {
        check.sentence("best: IllegalArgumentException if limit is not 0 to 5000", () -> limitRange());
        check.sentence("best: or load is not 0 to 2000", () -> loadRangeOfBest());
        check.sentence("Returns the best round.", () -> bestOfAll());
    }

    private static void limitRange() {
        VendingRounds x = Make.machines(2);
        x.setSlot(0, 0, 5, 5);
        for (int limit : Make.outside(0, 5000)) {
            check.refused("best(" + limit + ", 5)", x, Check.ARGUMENT, () -> x.best(limit, 5));
        }
        check.due("best(0, 5)", x.best(0, 5), 0);
        check.due("best(1, 5)", x.best(1, 5), 0);
        check.due("best(4999, 5)", x.best(4999, 5), 1);
        check.due("best(5000, 5)", x.best(5000, 5), 1);
    }

    private static void loadRangeOfBest() {
        VendingRounds x = Make.machines(2);
        x.setSlot(0, 0, 1, 5);
        for (int load : Make.outside(0, 2000)) {
            check.refused("best(100, " + load + ")", x, Check.ARGUMENT, () -> x.best(100, load));
        }
        check.due("best(100, 0)", x.best(100, 0), 0);
        check.due("best(100, 1)", x.best(100, 1), 1);
        check.due("best(100, 1999)", x.best(100, 1999), 1);
        check.due("best(100, 2000)", x.best(100, 2000), 1);
    }

    private static void bestOfAll() {
        check.due("best(5000, 2000) without machines", new VendingRounds().best(5000, 2000), 0);
        VendingRounds x = Make.machines(8);
        check.due("best(5000, 2000), no gain", x.best(5000, 2000), 0);
        for (int k = 0; k < 8; k++) {
            for (int p = 0; p <= 5; p++) {
                x.setSlot(k, p, 30, 0);
            }
        }
        // All lack 8 * 180 pieces, and need 9 * 20 minutes and 8 * (3 + 36) more.
        check.due("best(5000, 2000): all machines", x.best(5000, 2000), 255);
        check.due("best(492, 1440): just all machines", x.best(492, 1440), 255);
        check.due("best(491, 1440): all but the last", x.best(491, 1440), 127);
        check.due("best(492, 1439): all but the last", x.best(492, 1439), 127);
        check.due("best(79, 180): the first", x.best(79, 180), 1);
        check.due("best(78, 180): none", x.best(78, 180), 0);
        check.due("best changes nothing", x.total(3), 0);
    }

    // Promise 17

    private static void go() {
        check.sentence("go: or load is not 0 to 2000", () -> loadRangeOfGo());
        check.sentence("Returns how many pieces are left of the load.", () -> leftOfTheLoad());
    }

    private static void loadRangeOfGo() {
        VendingRounds x = Make.machines(1);
        x.setSlot(0, 0, 2, 0);
        for (int load : Make.outside(0, 2000)) {
            check.refused("go(1, " + load + ")", x, Check.ARGUMENT, () -> x.go(1, load));
            check.refused("go(0, " + load + ")", x, Check.ARGUMENT, () -> x.go(0, load));
        }
        check.due("go(1, 0)", x.go(1, 0), 0);
        check.due("go(1, 1)", x.go(1, 1), 0);
        check.due("go(1, 1999)", x.go(1, 1999), 1998);
        check.due("go(1, 2000)", x.go(1, 2000), 2000);
    }

    private static void leftOfTheLoad() {
        int[] loads = {0, 7, 8, 9, 2000};
        for (int load : loads) {
            VendingRounds x = Make.machines(2);
            x.setSlot(0, 0, 5, 0);
            x.setSlot(1, 5, 3, 0);
            check.due("go(3, " + load + "), 8 lack", x.go(3, load), Math.max(load - 8, 0));
            check.due("go(0, " + load + ")", x.go(0, load), load);
        }
    }

    // Promise 18

    private static void totals() {
        check.sentence("0 the coins that were brought home, 1 the minutes of all rounds that were made, "
            + "2 the pieces that were filled in, 3 the number of rounds", () -> totalsOfRounds());
        check.sentence("Throws `IndexOutOfBoundsException` if what is not 0 to 3", () -> whatOfATotal());
    }

    private static void totalsAre(String when, VendingRounds x, long... due) {
        for (int what = 0; what <= 3; what++) {
            check.due(when + ": total(" + what + ")", x.total(what), due[what]);
        }
    }

    private static void totalsOfRounds() {
        VendingRounds x = Make.machines(1);
        x.setSlot(0, 0, 10, 4);
        totalsAre("no round", x, 0, 0, 0, 0);
        x.go(1, 2000);
        totalsAre("filled up", x, 0, 45, 10, 1);
        x.pass(1);
        totalsAre("sold, but not brought home", x, 0, 45, 10, 1);
        x.go(1, 3);
        totalsAre("a load of 3 where 4 lack", x, 400, 45 + 44, 13, 2);
        x.go(0, 9);
        totalsAre("a round without machines", x, 400, 89, 13, 3);
        x.minutes(1);
        x.best(5000, 2000);
        totalsAre("a round that is not made", x, 400, 89, 13, 3);
    }

    private static void whatOfATotal() {
        VendingRounds x = Make.machines(1);
        for (int what : Make.outside(0, 3)) {
            check.refused("total(" + what + ")", x, Check.INDEX, () -> x.total(what));
        }
        check.due("total(0)", x.total(0), 0);
        check.due("total(3)", x.total(3), 0);
    }

    // Promise 19

    private static void filled() {
        VendingRounds x = Make.machines(8);
        x.setSlot(0, 0, 1, 1);
        check.dueDouble("0 of 1", x.filled(), 0.0);
        x.go(1, 1);
        check.dueDouble("1 of 1", x.filled(), 1.0);
        x.setSlot(7, 5, 2, 1);
        check.dueDouble("1 of 3", x.filled(), 1.0 / 3.0);
        x.go(128, 1);
        check.dueDouble("2 of 3: the sums are divided, not each slot", x.filled(), 2.0 / 3.0);
        x.pass(1);
        check.dueDouble("0 of 3", x.filled(), 0.0);
        for (int k = 0; k < 8; k++) {
            for (int p = 0; p <= 5; p++) {
                x.setSlot(k, p, 30, 1);
            }
        }
        x.go(255, 1439);
        check.dueDouble("1439 of 1440", x.filled(), 1439.0 / 1440.0);
        x.go(255, 1);
        check.dueDouble("1440 of 1440", x.filled(), 1.0);
    }

    private static void filledWithoutCapacities() {
        check.dueDouble("without machines", new VendingRounds().filled(), 1.0);
        VendingRounds x = Make.machines(8);
        check.dueDouble("machines without capacities", x.filled(), 1.0);
        x.setSlot(0, 0, 0, 20);
        check.dueDouble("a demand without a capacity", x.filled(), 1.0);
        x.setSlot(7, 5, 1, 0);
        check.dueDouble("one place, empty", x.filled(), 0.0);
        x.setSlot(7, 5, 0, 0);
        check.dueDouble("no place again", x.filled(), 1.0);
    }

    // Promise 20

    private static void digest() {
        check.sentence("A number d starts with 211", () -> digestOfNothing());
        check.sentence("which wraps around as a 64-bit integer", () -> digestWrapsAround());
        check.sentence("the minutes from the depot to it, and from each machine with a smaller number, "
            + "in ascending order", () -> digestOfWays());
        check.sentence("for each machine what machine() tells, in its order, and for each of its products "
            + "what slot() tells, in its order", () -> digestOfMachines());
        check.sentence("the number of changes that are planned for later days; what total() tells, in its order",
            () -> digestOfPlansAndTotals());
    }

    private static final BigInteger ROUND = BigInteger.ONE.shiftLeft(64);

    /** The checksum without a wrap-around, and only its end made a 64-bit integer. */
    private static long checksum(long... numbers) {
        BigInteger d = BigInteger.valueOf(211);
        for (long x : numbers) {
            d = d.multiply(BigInteger.valueOf(31)).add(BigInteger.valueOf(x));
        }
        return d.mod(ROUND).longValue();
    }

    private static void digestOfNothing() {
        VendingRounds x = new VendingRounds();
        // The day, the number of machines, the changes and four totals.
        check.due("digest() of a new object", x.digest(), 211L * 31 * 31 * 31 * 31 * 31 * 31 * 31);
        x.pass(1);
        check.due("digest() on day 1", x.digest(), checksum(1, 0, 0, 0, 0, 0, 0));
    }

    private static void digestWrapsAround() {
        long[] oneMachine = new long[2 + 1 + 5 + 36 + 1 + 4];
        oneMachine[1] = 1;
        oneMachine[2] = 20;
        oneMachine[4] = 100;
        for (int p = 0; p <= 5; p++) {
            oneMachine[8 + 6 * p + 2] = 100;
        }
        // Limits in a row: their checksums lie on both sides of 0.
        boolean above = false;
        boolean below = false;
        for (int limit = 100; limit < 140; limit++) {
            VendingRounds x = new VendingRounds();
            x.addMachine(limit);
            oneMachine[4] = limit;
            check.due("digest() with a limit of " + limit, x.digest(), checksum(oneMachine));
            above |= x.digest() > 0;
            below |= x.digest() < 0;
        }
        check.due("checksums above and below 0", above && below ? 1 : 0, 1);
    }

    /** What the digest mixes of a machine with a limit of 100000 that is as it was made. */
    private static final long[] NEW_MACHINE = {
        0, 100000, 0, 0, 0,
        0, 0, 100, 0, 0, 0, 0, 0, 100, 0, 0, 0, 0, 0, 100, 0, 0, 0,
        0, 0, 100, 0, 0, 0, 0, 0, 100, 0, 0, 0, 0, 0, 100, 0, 0, 0,
    };

    private static long[] joined(long[]... parts) {
        int length = 0;
        for (long[] part : parts) {
            length += part.length;
        }
        long[] whole = new long[length];
        int at = 0;
        for (long[] part : parts) {
            System.arraycopy(part, 0, whole, at, part.length);
            at += part.length;
        }
        return whole;
    }

    private static void digestOfWays() {
        VendingRounds x = Make.machines(3);
        x.setMinutes(-1, 0, 1);
        x.setMinutes(-1, 1, 2);
        x.setMinutes(0, 1, 3);
        x.setMinutes(-1, 2, 4);
        x.setMinutes(0, 2, 5);
        x.setMinutes(1, 2, 6);
        check.due("digest()", x.digest(), checksum(joined(new long[] {0, 3, 1, 2, 3, 4, 5, 6},
            NEW_MACHINE, NEW_MACHINE, NEW_MACHINE, new long[] {0, 0, 0, 0, 0})));
    }

    private static void digestOfMachines() {
        VendingRounds x = Make.machines(2);
        x.setSlot(1, 0, 9, 4);
        x.setSlot(1, 5, 6, 7);
        x.planPrice(1, 0, 0, 50);
        x.go(2, 15);
        x.pass(1);
        long[] sold = NEW_MACHINE.clone();
        // 4 at 50 and 6 at 100 are sold, and one is lost.
        System.arraycopy(new long[] {800, 100000, 10, 200 + 600 + 800, 1}, 0, sold, 0, 5);
        System.arraycopy(new long[] {9, 5, 50, 4, 4, 0}, 0, sold, 5, 6);
        System.arraycopy(new long[] {6, 0, 100, 7, 6, 1}, 0, sold, 5 + 5 * 6, 6);
        check.due("digest()", x.digest(), checksum(joined(new long[] {1, 2, 20, 20, 20},
            NEW_MACHINE, sold, new long[] {0, 0, 43 + 3, 15, 1})));
    }

    private static void digestOfPlansAndTotals() {
        VendingRounds x = Make.machines(1);
        x.planPrice(0, 0, 2, 5);
        x.planPrice(0, 0, 3, 6);
        check.due("digest() with two changes", x.digest(),
            checksum(joined(new long[] {0, 1, 20}, NEW_MACHINE, new long[] {2, 0, 0, 0, 0})));
        VendingRounds y = Make.stocked(100000, 7, 7);
        y.pass(1);
        y.go(1, 0);
        y.setSlot(0, 0, 0, 0);
        long[] sold = NEW_MACHINE.clone();
        sold[4] = 2;
        sold[5 + 4] = 7;
        check.due("digest() with all totals", y.digest(),
            checksum(joined(new long[] {1, 1, 20}, sold, new long[] {0, 700, 45 + 45, 7, 2})));
    }
}
