import java.util.ArrayList;
import java.util.List;
import java.util.function.Supplier;

/**
 * What "Terms" says of exceptions: each kind of refused call on planners in several states. The planner
 * that refused a call must answer all later calls as its twin does that has not been asked.
 */
public final class RefusalsTest {
    private static final Check check = new Check();

    private interface Call {
        long on(VendingRounds x);
    }

    private static String state;
    private static Supplier<VendingRounds> maker;

    public static void main(String[] args) {
        inState("a new planner", () -> new VendingRounds());
        withoutMachines();
        inState("three machines on day 5", () -> inUse(3, 5, 2));
        wrongEverywhere(5);
        unknownMachines(3, 5);
        inState("all full on day 970", () -> inUse(8, 970, 20));
        wrongEverywhere(970);
        unknownMachines(8, 970);
        withAllFull();
        inState("the last day", () -> inUse(8, 999, 0));
        wrongEverywhere(999);
        onTheLastDay();
        check.finish();
    }

    private static void inState(String name, Supplier<VendingRounds> made) {
        state = name;
        maker = made;
    }

    /**
     * Machines with coins, some goods and some losses, and changes planned for the days that follow:
     * several of them for one day and slot, so that their order counts.
     */
    private static VendingRounds inUse(int count, int day, int changes) {
        VendingRounds x = new VendingRounds();
        for (int k = 0; k < count; k++) {
            x.addMachine(300 + 900 * k);
            x.setMinutes(-1, k, 10 + k);
            x.setSlot(k, 0, 20, 2 + k);
            x.setSlot(k, 5, 7, 1);
        }
        Make.reach(x, day - 2);
        int all = (1 << count) - 1;
        x.go(all, 2000);
        x.pass(2);
        x.go(1, 3);
        for (int k = 1; k <= changes; k++) {
            x.planPrice(k % 2, 0, day + 1 + k / 5, 50 + 7 * k % 20);
        }
        return x;
    }

    private static void refused(String name, Class<?> due, Call call) {
        String what = state + ": " + name;
        check.sentence("If several exceptions apply, the one that is named first is thrown.", () -> {
            VendingRounds x = maker.get();
            check.throwsIt(what, due, () -> call.on(x));
        });
        check.sentence("A method that throws an exception changes nothing.", () -> {
            VendingRounds x = maker.get();
            try {
                call.on(x);
            } catch (RuntimeException e) {
                // Which one it is, is the matter of the test above.
            }
            List<Long> later = laterAnswers(x);
            List<Long> twins = laterAnswers(maker.get());
            if (!later.equals(twins)) {
                check.tell(what + " changed later answers from " + twins + " to " + later);
            }
        });
    }

    private static List<Long> laterAnswers(VendingRounds x) {
        List<Long> answers = new ArrayList<>();
        int count = x.machineCount();
        int all = (1 << count) - 1;
        answers.add(x.digest());
        answers.add(Double.doubleToLongBits(x.filled()));
        for (int place = 0; place < count; place++) {
            answers.add((long) x.visit(all, place));
            answers.add((long) x.runsOut(place, 0));
        }
        answers.add((long) x.minutes(all));
        answers.add((long) x.best(60, 40));
        answers.add((long) x.best(5000, 2000));
        int days = Math.min(30, 999 - x.today());
        for (int day = 0; day < days; day++) {
            answers.add((long) x.pass(1));
            answers.add((long) x.planned());
            answers.add(x.digest());
        }
        answers.add((long) x.go(all, 50));
        answers.add(x.digest());
        return answers;
    }

    private static void withoutMachines() {
        refused("setMinutes(0, -1, 5)", Check.INDEX, x -> x.setMinutes(0, -1, 5));
        refused("setMinutes(-1, 0, 5)", Check.INDEX, x -> x.setMinutes(-1, 0, 5));
        refused("setMinutes(-1, -1, 5)", Check.ARGUMENT, x -> x.setMinutes(-1, -1, 5));
        refused("setMinutes(0, 0, 0)", Check.INDEX, x -> x.setMinutes(0, 0, 0));
        refused("setSlot(0, 0, 1, 1)", Check.INDEX, x -> x.setSlot(0, 0, 1, 1));
        refused("setSlot(0, 0, 31, 21)", Check.INDEX, x -> x.setSlot(0, 0, 31, 21));
        refused("planPrice(0, 0, 0, 1)", Check.INDEX, x -> x.planPrice(0, 0, 0, 1));
        refused("planPrice(0, 0, -1, 0)", Check.INDEX, x -> x.planPrice(0, 0, -1, 0));
        refused("slot(0, 0, 0)", Check.INDEX, x -> x.slot(0, 0, 0));
        refused("machine(0, 0)", Check.INDEX, x -> x.machine(0, 0));
        refused("runsOut(0, 0)", Check.INDEX, x -> x.runsOut(0, 0));
        refused("drive(1)", Check.ARGUMENT, x -> x.drive(1));
        refused("visit(0, 0)", Check.INDEX, x -> x.visit(0, 0));
        refused("visit(1, 0)", Check.ARGUMENT, x -> x.visit(1, 0));
        refused("minutes(1)", Check.ARGUMENT, x -> x.minutes(1));
        refused("go(1, 0)", Check.ARGUMENT, x -> x.go(1, 0));
        callsWithoutAMachine();
    }

    /** Refused in each state, as no machine is asked for. */
    private static void callsWithoutAMachine() {
        refused("addMachine(99)", Check.ARGUMENT, x -> x.addMachine(99));
        refused("addMachine(100001)", Check.ARGUMENT, x -> x.addMachine(100001));
        refused("pass(0)", Check.ARGUMENT, x -> x.pass(0));
        refused("pass(31)", Check.ARGUMENT, x -> x.pass(31));
        refused("drive(-1)", Check.ARGUMENT, x -> x.drive(-1));
        refused("drive(256)", Check.ARGUMENT, x -> x.drive(256));
        refused("visit(0, 0)", Check.INDEX, x -> x.visit(0, 0));
        refused("visit(256, -1), set and place", Check.ARGUMENT, x -> x.visit(256, -1));
        refused("visit(-1, 8), set and place", Check.ARGUMENT, x -> x.visit(-1, 8));
        refused("minutes(-1)", Check.ARGUMENT, x -> x.minutes(-1));
        refused("minutes(256)", Check.ARGUMENT, x -> x.minutes(256));
        refused("best(-1, 0)", Check.ARGUMENT, x -> x.best(-1, 0));
        refused("best(5001, 0)", Check.ARGUMENT, x -> x.best(5001, 0));
        refused("best(0, -1)", Check.ARGUMENT, x -> x.best(0, -1));
        refused("best(0, 2001)", Check.ARGUMENT, x -> x.best(0, 2001));
        refused("best(5001, 2001)", Check.ARGUMENT, x -> x.best(5001, 2001));
        refused("go(256, 5)", Check.ARGUMENT, x -> x.go(256, 5));
        refused("go(0, -1)", Check.ARGUMENT, x -> x.go(0, -1));
        refused("go(0, 2001)", Check.ARGUMENT, x -> x.go(0, 2001));
        refused("go(-1, 2001)", Check.ARGUMENT, x -> x.go(-1, 2001));
        refused("total(-1)", Check.INDEX, x -> x.total(-1));
        refused("total(4)", Check.INDEX, x -> x.total(4));
    }

    private static void wrongEverywhere(int today) {
        callsWithoutAMachine();
        refused("setMinutes(-1, -1, 5)", Check.ARGUMENT, x -> x.setMinutes(-1, -1, 5));
        refused("setMinutes(2, 2, 5)", Check.ARGUMENT, x -> x.setMinutes(2, 2, 5));
        refused("setMinutes(0, 1, 0)", Check.ARGUMENT, x -> x.setMinutes(0, 1, 0));
        refused("setMinutes(-1, 2, 201)", Check.ARGUMENT, x -> x.setMinutes(-1, 2, 201));
        refused("setMinutes(1, 1, 201)", Check.ARGUMENT, x -> x.setMinutes(1, 1, 201));
        refused("setSlot(0, 0, 31, 9)", Check.ARGUMENT, x -> x.setSlot(0, 0, 31, 9));
        refused("setSlot(0, 0, -1, 9)", Check.ARGUMENT, x -> x.setSlot(0, 0, -1, 9));
        refused("setSlot(0, 0, 1, 21)", Check.ARGUMENT, x -> x.setSlot(0, 0, 1, 21));
        refused("setSlot(0, 0, 1, -1)", Check.ARGUMENT, x -> x.setSlot(0, 0, 1, -1));
        refused("setSlot(0, 0, 31, 21)", Check.ARGUMENT, x -> x.setSlot(0, 0, 31, 21));
        refused("planPrice, yesterday", Check.ARGUMENT, x -> x.planPrice(0, 0, today - 1, 9));
        refused("planPrice, day 1000", Check.ARGUMENT, x -> x.planPrice(0, 0, 1000, 9));
        refused("planPrice, today for 0", Check.ARGUMENT, x -> x.planPrice(0, 0, today, 0));
        refused("planPrice, today for 1001", Check.ARGUMENT, x -> x.planPrice(0, 0, today, 1001));
        refused("planPrice, yesterday for 0", Check.ARGUMENT, x -> x.planPrice(0, 0, today - 1, 0));
        refused("slot(0, 0, -1)", Check.INDEX, x -> x.slot(0, 0, -1));
        refused("slot(0, 0, 6)", Check.INDEX, x -> x.slot(0, 0, 6));
        refused("machine(0, -1)", Check.INDEX, x -> x.machine(0, -1));
        refused("machine(0, 5)", Check.INDEX, x -> x.machine(0, 5));
        refused("visit(5, -1)", Check.INDEX, x -> x.visit(5, -1));
        refused("visit(5, 2)", Check.INDEX, x -> x.visit(5, 2));
        refused("go(1, -1)", Check.ARGUMENT, x -> x.go(1, -1));
        refused("go(7, 2001)", Check.ARGUMENT, x -> x.go(7, 2001));
        int[] products = {-1, 6};
        for (int product : products) {
            unknownSlot(0, product, today);
        }
    }

    private static void unknownMachines(int count, int today) {
        int[] machines = {-1, count};
        for (int machine : machines) {
            unknownSlot(machine, 0, today);
            refused("machine(" + machine + ", 0)", Check.INDEX, x -> x.machine(machine, 0));
        }
        int[] places = {-2, count};
        for (int place : places) {
            String ways = "setMinutes with " + place;
            refused(ways + " and 0", Check.INDEX, x -> x.setMinutes(place, 0, 5));
            refused(ways + " behind 0", Check.INDEX, x -> x.setMinutes(0, place, 5));
            refused(ways + ", wrong minutes, too", Check.INDEX, x -> x.setMinutes(place, 0, 0));
            refused(ways + " behind 0, wrong minutes, too", Check.INDEX, x -> x.setMinutes(0, place, 201));
            refused(ways + " and itself", Check.INDEX, x -> x.setMinutes(place, place, 5));
        }
        int set = 1 << count;
        refused("drive of a set with one machine too many", Check.ARGUMENT, x -> x.drive(set));
        refused("minutes of it", Check.ARGUMENT, x -> x.minutes(set + 1));
        refused("visit of it", Check.ARGUMENT, x -> x.visit(set + 1, 0));
        refused("visit of it, no place", Check.ARGUMENT, x -> x.visit(set + 1, 2));
        refused("go of it", Check.ARGUMENT, x -> x.go(set + 1, 5));
    }

    /** No such slot comes before all that may be wrong besides. */
    private static void unknownSlot(int machine, int product, int today) {
        String place = "(" + machine + ", " + product + ")";
        refused("setSlot" + place, Check.INDEX, x -> x.setSlot(machine, product, 1, 1));
        refused("setSlot" + place + ", capacity", Check.INDEX, x -> x.setSlot(machine, product, 31, 1));
        refused("setSlot" + place + ", demand", Check.INDEX, x -> x.setSlot(machine, product, 1, -1));
        refused("planPrice" + place, Check.INDEX, x -> x.planPrice(machine, product, today, 1));
        refused("planPrice" + place + ", day", Check.INDEX, x -> x.planPrice(machine, product, 1000, 1));
        refused("planPrice" + place + ", price", Check.INDEX, x -> x.planPrice(machine, product, today, 0));
        refused("planPrice" + place + ", last day", Check.INDEX, x -> x.planPrice(machine, product, 999, 1));
        refused("slot" + place, Check.INDEX, x -> x.slot(machine, product, 0));
        refused("slot" + place + ", what", Check.INDEX, x -> x.slot(machine, product, 6));
        refused("runsOut" + place, Check.INDEX, x -> x.runsOut(machine, product));
    }

    private static void withAllFull() {
        refused("addMachine(100)", Check.STATE, x -> x.addMachine(100));
        refused("addMachine(100000)", Check.STATE, x -> x.addMachine(100000));
        refused("the 21st change, for tomorrow", Check.STATE, x -> x.planPrice(0, 0, 971, 9));
        refused("the 21st change, for day 999", Check.STATE, x -> x.planPrice(7, 5, 999, 9));
        refused("the 21st change, price", Check.ARGUMENT, x -> x.planPrice(0, 0, 971, 0));
        refused("the 21st change, day", Check.ARGUMENT, x -> x.planPrice(0, 0, 969, 9));
        refused("the 21st change, day 1000", Check.ARGUMENT, x -> x.planPrice(0, 0, 1000, 9));
        refused("the 21st change, machine", Check.INDEX, x -> x.planPrice(8, 0, 971, 9));
        refused("the 21st change, product", Check.INDEX, x -> x.planPrice(0, 6, 971, 9));
        refused("pass(30) on day 970", Check.STATE, x -> x.pass(30));
        refused("pass(31) on day 970", Check.ARGUMENT, x -> x.pass(31));
    }

    private static void onTheLastDay() {
        refused("pass(1)", Check.STATE, x -> x.pass(1));
        refused("pass(30)", Check.STATE, x -> x.pass(30));
        refused("pass(31), days and the last day", Check.ARGUMENT, x -> x.pass(31));
        refused("addMachine(100)", Check.STATE, x -> x.addMachine(100));
    }
}
