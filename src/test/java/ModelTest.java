/** Long runs of calls, right and wrong ones mixed, against the literal model of the document. */
public final class ModelTest {
    private static final int RUNS = 300;
    /** An object is used for at most 512 calls. */
    private static final int CALLS = 512;

    private static final Check check = new Check();

    /** A fixed row of numbers, so that each run of this test makes the same calls. */
    private static long seed;

    /** The calls that the object of this run has had. */
    private static int made;

    public static void main(String[] args) {
        for (int run = 0; run < RUNS; run++) {
            seed = run * 7919L + 1;
            oneRun(run);
        }
        check.finish();
    }

    private static int upTo(int most) {
        seed = seed * 6364136223846793005L + 1442695040888963407L;
        return (int) ((seed >>> 33) % (most + 1));
    }

    /** Mostly a number of the range; now and then one of its edges or one beyond. */
    private static int about(int least, int most) {
        int kind = upTo(39);
        if (kind == 0) {
            int[] odd = {least - 1, most + 1, Integer.MIN_VALUE, Integer.MAX_VALUE, -2, 1000};
            return odd[upTo(5)];
        }
        if (kind < 4) {
            return kind == 1 ? least : most;
        }
        return most < least ? least : least + upTo(most - least);
    }

    private static void oneRun(int run) {
        VendingRounds x = new VendingRounds();
        Model model = new Model();
        int machines = run % 9;
        // Runs differ in how many days pass and how alike the ways are.
        int longest = run % 3 == 0 ? 30 : 1 + run % 4;
        int farthest = run % 5 == 0 ? 200 : 1 + run % 7;
        made = 0;
        for (int machine = 0; machine < machines; machine++) {
            int limit = upTo(1) == 0 ? 100 + upTo(900) : 100000;
            same(run, "addMachine " + limit, () -> x.addMachine(limit), model.addMachine(limit));
        }
        // One step makes one call or two, or none at all; the last call is kept for the digest.
        for (int step = 0; step < 2 * CALLS && made < CALLS - 2; step++) {
            oneStep(run, x, model, longest, farthest);
        }
        check.due("run " + run + ": digest() at its end", x.digest(), model.digest());
    }

    private static void oneStep(int run, VendingRounds x, Model model, int longest, int farthest) {
        int count = (int) model.machineCount();
        int m = about(0, count - 1);
        int p = about(0, 5);
        int set = about(0, (1 << count) - 1);
        int load = upTo(2) == 0 ? about(0, 2000) : about(0, 60);
        switch (upTo(23)) {
            case 0: {
                int limit = upTo(3) == 0 ? about(100, 100000) : about(100, 1000);
                if (upTo(9) == 0) {
                    same(run, "addMachine " + limit, () -> x.addMachine(limit), model.addMachine(limit));
                }
                break;
            }
            case 1:
            case 2: {
                int a = about(-1, count - 1);
                int b = about(-1, count - 1);
                int minutes = upTo(9) == 0 ? about(1, 200) : 1 + upTo(farthest);
                same(run, "setMinutes " + a + " " + b + " " + minutes,
                    () -> x.setMinutes(a, b, minutes), model.setMinutes(a, b, minutes));
                break;
            }
            case 3:
            case 4:
            case 5: {
                int capacity = about(0, 30);
                int demand = about(0, 20);
                same(run, "setSlot " + m + " " + p + " " + capacity + " " + demand,
                    () -> x.setSlot(m, p, capacity, demand), model.setSlot(m, p, capacity, demand));
                break;
            }
            case 6:
            case 7: {
                int today = (int) model.today();
                int day = upTo(9) == 0 ? about(today, 999) : about(today, today + 6);
                int price = upTo(2) == 0 ? about(1, 20) : about(1, 1000);
                same(run, "planPrice " + m + " " + p + " " + day + " " + price,
                    () -> x.planPrice(m, p, day, price), model.planPrice(m, p, day, price));
                break;
            }
            case 8: {
                int what = about(0, 5);
                same(run, "slot " + m + " " + p + " " + what, () -> x.slot(m, p, what), model.slot(m, p, what));
                same(run, "machineCount", () -> x.machineCount(), model.machineCount());
                break;
            }
            case 9: {
                int what = about(0, 4);
                same(run, "machine " + m + " " + what, () -> x.machine(m, what), model.machine(m, what));
                break;
            }
            case 10:
            case 11:
                same(run, "runsOut " + m + " " + p, () -> x.runsOut(m, p), model.runsOut(m, p));
                break;
            case 12:
            case 13:
            case 14: {
                int days = about(1, longest);
                same(run, "pass " + days, () -> x.pass(days), model.pass(days));
                break;
            }
            default:
                askOrGo(run, x, model, set, load);
        }
    }

    private static void askOrGo(int run, VendingRounds x, Model model, int set, int load) {
        switch (upTo(9)) {
            case 0:
                same(run, "today", () -> x.today(), model.today());
                same(run, "planned", () -> x.planned(), model.planned());
                break;
            case 1:
                same(run, "drive " + set, () -> x.drive(set), model.drive(set));
                break;
            case 2: {
                int index = about(0, 7);
                same(run, "visit " + set + " " + index, () -> x.visit(set, index), model.visit(set, index));
                break;
            }
            case 3:
                same(run, "minutes " + set, () -> x.minutes(set), model.minutes(set));
                break;
            case 4:
            case 5: {
                int limit = upTo(3) == 0 ? about(0, 5000) : about(0, 150);
                same(run, "best " + limit + " " + load, () -> x.best(limit, load), model.best(limit, load));
                break;
            }
            case 6:
            case 7:
                same(run, "go " + set + " " + load, () -> x.go(set, load), model.go(set, load));
                break;
            case 8: {
                int what = about(0, 3);
                same(run, "total " + what, () -> x.total(what), model.total(what));
                break;
            }
            default:
                made++;
                check.dueDouble("run " + run + ", call " + made + ": filled", x.filled(), model.filled());
                same(run, "digest", () -> x.digest(), model.digest());
        }
    }

    private static void same(int run, String what, Check.Call asked, long due) {
        made++;
        long got;
        try {
            got = asked.answer();
        } catch (RuntimeException e) {
            got = numberOf(e.getClass());
        }
        check.due("run " + run + ", call " + made + ": " + what, got, due);
    }

    private static long numberOf(Class<?> thrown) {
        if (thrown == Check.INDEX) {
            return Model.INDEX;
        }
        if (thrown == Check.ARGUMENT) {
            return Model.ARGUMENT;
        }
        return thrown == Check.STATE ? Model.STATE : Long.MIN_VALUE + 3;
    }
}
