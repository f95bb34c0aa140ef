import java.util.ArrayList;

/** A planner of rounds to vending machines. */
public final class VendingRounds {
    private static final int MOST_MACHINES = 8;
    private static final int PRODUCTS = 6;
    private static final int LAST_DAY = 999;
    private static final int MOST_CHANGES = 20;
    private static final int MOST_LOAD = 2000;
    private static final int DEPOT = -1;

    private final ArrayList<Machine> machineList = new ArrayList<Machine>();
    private final ArrayList<PriceChange> changes = new ArrayList<PriceChange>();
    private final Roads roads = new Roads();

    // One place for each machine, written by survey(): kept here, so that no call makes rows anew.
    private final int[] visitTimes = new int[MOST_MACHINES];
    private final int[] lacks = new int[MOST_MACHINES];
    private final int[] gains = new int[MOST_MACHINES];

    private int day;
    private long coinsHome;
    private long minutesSpent;
    private long piecesFilled;
    private long roundsMade;

    public VendingRounds() {
    }

    // ---- machines

    public int addMachine(int limit) throws IllegalArgumentException, IllegalStateException {
        if (outside(limit, 100, 100000)) {
            throw new IllegalArgumentException("the limit is not 100 to 100000");
        }
        if (machineList.size() >= MOST_MACHINES) {
            throw new IllegalStateException("there are 8 machines");
        }
        machineList.add(new Machine(limit));
        roads.measureTours(machineList.size());
        return machineList.size() - 1;
    }

    public int setMinutes(int a, int b, int minutes) throws IndexOutOfBoundsException, IllegalArgumentException {
        if (isNoPlace(a) || isNoPlace(b)) {
            throw new IndexOutOfBoundsException("there is no such machine");
        }
        if (a == b) {
            throw new IllegalArgumentException("a and b are the same");
        }
        if (outside(minutes, 1, 200)) {
            throw new IllegalArgumentException("minutes is not 1 to 200");
        }
        int before = roads.between(a, b);
        roads.setBetween(a, b, minutes);
        roads.measureTours(machineList.size());
        return before;
    }

    public int setSlot(int machine, int product, int capacity, int demand)
            throws IndexOutOfBoundsException, IllegalArgumentException {
        Slot slot = slotAt(machine, product);
        if (outside(capacity, 0, 30)) {
            throw new IllegalArgumentException("capacity is not 0 to 30");
        }
        if (outside(demand, 0, 20)) {
            throw new IllegalArgumentException("demand is not 0 to 20");
        }
        int before = slot.capacity;
        slot.capacity = capacity;
        slot.stock = Math.min(slot.stock, capacity);
        slot.demand = demand;
        return before;
    }

    public int planPrice(int machine, int product, int day, int price)
            throws IndexOutOfBoundsException, IllegalArgumentException, IllegalStateException {
        Slot slot = slotAt(machine, product);
        if (outside(day, this.day, LAST_DAY)) {
            throw new IllegalArgumentException("day is less than today, or greater than 999");
        }
        if (outside(price, 1, 1000)) {
            throw new IllegalArgumentException("price is not 1 to 1000");
        }
        if (day == this.day) {
            slot.price = price;
            return changes.size();
        }
        if (changes.size() >= MOST_CHANGES) {
            throw new IllegalStateException("20 changes are planned for later days");
        }
        changes.add(new PriceChange(slot, day, price));
        return changes.size();
    }

    public int machineCount() {
        return machineList.size();
    }

    public int slot(int machine, int product, int what) throws IndexOutOfBoundsException {
        Slot slot = slotAt(machine, product);
        if (outside(what, 0, Slot.FACTS - 1)) {
            throw new IndexOutOfBoundsException("what is not 0 to 5");
        }
        return slot.fact(what);
    }

    public int machine(int machine, int what) throws IndexOutOfBoundsException {
        Machine asked = machineAt(machine);
        if (outside(what, 0, Machine.FACTS - 1)) {
            throw new IndexOutOfBoundsException("what is not 0 to 4");
        }
        return asked.fact(what);
    }

    public int runsOut(int machine, int product) throws IndexOutOfBoundsException {
        Slot slot = slotAt(machine, product);
        if (slot.stock <= 0 || slot.demand <= 0) {
            return -1;
        }
        return day + (slot.stock - 1) / slot.demand;
    }

    // ---- days

    public int pass(int days) throws IllegalArgumentException, IllegalStateException {
        if (outside(days, 1, 30)) {
            throw new IllegalArgumentException("days is not 1 to 30");
        }
        if (day + days > LAST_DAY) {
            throw new IllegalStateException("it would be later than day 999");
        }
        int sold = 0;
        for (int passed = 0; passed < days; passed++) {
            sold += sellEverywhere();
            day++;
            changePrices();
        }
        return sold;
    }

    public int today() {
        return day;
    }

    public int planned() {
        return changes.size();
    }

    // ---- rounds

    public int drive(int machines) throws IllegalArgumentException {
        requireSet(machines);
        return roads.leastFrom(DEPOT, machines);
    }

    public int visit(int machines, int index) throws IllegalArgumentException, IndexOutOfBoundsException {
        requireSet(machines);
        if (outside(index, 0, Integer.bitCount(machines) - 1)) {
            throw new IndexOutOfBoundsException("there is no such place in the order");
        }
        int here = DEPOT;
        int left = machines;
        for (int place = 0; place <= index; place++) {
            here = roads.nextStop(here, left);
            left = without(left, here);
        }
        return here;
    }

    public int minutes(int machines) throws IllegalArgumentException {
        requireSet(machines);
        survey();
        return roundTime(machines);
    }

    public int best(int limit, int load) throws IllegalArgumentException {
        if (outside(limit, 0, 5000)) {
            throw new IllegalArgumentException("limit is not 0 to 5000");
        }
        requireLoad(load);
        survey();
        int bestSet = 0;
        int bestGain = 0;
        int bestTime = 0;
        int sets = 1 << machineList.size();
        // The sets come in ascending order, so of equal ones the smallest number stays.
        for (int set = 1; set < sets; set++) {
            int time = roundTime(set);
            int gain = sumOver(set, gains);
            boolean fits = time <= limit && sumOver(set, lacks) <= load;
            if (fits && (gain > bestGain || (gain == bestGain && time < bestTime))) {
                bestSet = set;
                bestGain = gain;
                bestTime = time;
            }
        }
        return bestSet;
    }

    public int go(int machines, int load) throws IllegalArgumentException {
        requireSet(machines);
        requireLoad(load);
        // The minutes depend on what is lacking when the round begins.
        survey();
        minutesSpent += roundTime(machines);
        roundsMade++;
        int left = machines;
        int loadLeft = load;
        int here = roads.nextStop(DEPOT, left);
        for (int stop = 0; stop < MOST_MACHINES && !isNoMachine(here); stop++) {
            loadLeft -= serve(machineList.get(here), loadLeft);
            left = without(left, here);
            here = roads.nextStop(here, left);
        }
        return loadLeft;
    }

    public long total(int what) throws IndexOutOfBoundsException {
        if (outside(what, 0, 3)) {
            throw new IndexOutOfBoundsException("what is not 0 to 3");
        }
        switch (what) {
            case 0:
                return coinsHome;
            case 1:
                return minutesSpent;
            case 2:
                return piecesFilled;
            default:
                return roundsMade;
        }
    }

    public double filled() {
        int stocks = 0;
        int capacities = 0;
        for (int number = 0; number < machineList.size(); number++) {
            Machine machine = machineList.get(number);
            for (int product = 0; product < PRODUCTS; product++) {
                stocks += machine.slots[product].stock;
                capacities += machine.slots[product].capacity;
            }
        }
        if (capacities == 0) {
            return 1.0;
        }
        return (double) stocks / capacities;
    }

    public long digest() {
        int count = machineList.size();
        long d = mixed(mixed(211, day), count);
        for (int number = 0; number < count; number++) {
            for (int from = DEPOT; from < number; from++) {
                d = mixed(d, roads.between(from, number));
            }
        }
        for (int number = 0; number < count; number++) {
            d = mixedMachine(d, machineList.get(number));
        }
        d = mixed(d, changes.size());
        d = mixed(mixed(d, coinsHome), minutesSpent);
        return mixed(mixed(d, piecesFilled), roundsMade);
    }

    // ---- what the calls share

    private static boolean outside(int value, int least, int most) {
        return value < least || value > most;
    }

    private static boolean contains(int set, int machine) {
        return (set >> machine & 1) != 0;
    }

    private static int without(int set, int machine) {
        return set & ~(1 << machine);
    }

    private static int sumOver(int set, int[] row) {
        int sum = 0;
        for (int machine = 0; machine < row.length; machine++) {
            if (contains(set, machine)) {
                sum += row[machine];
            }
        }
        return sum;
    }

    private static long mixed(long d, long x) {
        return d * 31 + x;
    }

    private static long mixedMachine(long d, Machine machine) {
        for (int what = 0; what < Machine.FACTS; what++) {
            d = mixed(d, machine.fact(what));
        }
        for (int product = 0; product < PRODUCTS; product++) {
            for (int what = 0; what < Slot.FACTS; what++) {
                d = mixed(d, machine.slots[product].fact(what));
            }
        }
        return d;
    }

    private boolean isNoMachine(int machine) {
        return outside(machine, 0, machineList.size() - 1);
    }

    private boolean isNoPlace(int place) {
        return place != DEPOT && isNoMachine(place);
    }

    private Machine machineAt(int machine) {
        if (isNoMachine(machine)) {
            throw new IndexOutOfBoundsException("there is no such machine");
        }
        return machineList.get(machine);
    }

    private Slot slotAt(int machine, int product) {
        Machine asked = machineAt(machine);
        if (outside(product, 0, PRODUCTS - 1)) {
            throw new IndexOutOfBoundsException("product is not 0 to 5");
        }
        return asked.slots[product];
    }

    private void requireSet(int machines) {
        if (machines >>> machineList.size() != 0) {
            throw new IllegalArgumentException("machines contains something that is no machine");
        }
    }

    private static void requireLoad(int load) {
        if (outside(load, 0, MOST_LOAD)) {
            throw new IllegalArgumentException("load is not 0 to 2000");
        }
    }

    private int sellEverywhere() {
        int sold = 0;
        for (int number = 0; number < machineList.size(); number++) {
            sold += machineList.get(number).sellForADay();
        }
        return sold;
    }

    /** Makes the changes that are planned for the day that begins. */
    private void changePrices() {
        for (int i = 0; i < changes.size(); i++) {
            PriceChange change = changes.get(i);
            if (change.day == day) {
                change.slot.price = change.price;
            }
        }
        for (int i = changes.size() - 1; i >= 0; i--) {
            if (changes.get(i).day == day) {
                changes.remove(i);
            }
        }
    }

    /** Writes the rows of what the machines need and give as they are now. */
    private void survey() {
        for (int number = 0; number < machineList.size(); number++) {
            Machine machine = machineList.get(number);
            lacks[number] = machine.lacking();
            gains[number] = machine.gain();
            visitTimes[number] = machine.visitTime();
        }
    }

    /** The minutes of a round, by the rows of the last survey. */
    private int roundTime(int set) {
        return roads.leastFrom(DEPOT, set) + sumOver(set, visitTimes);
    }

    /** Visits a machine of a round; returns how many pieces it takes from the load. */
    private int serve(Machine machine, int load) {
        coinsHome += machine.emptyBox();
        machine.visits++;
        int taken = machine.fillUp(load);
        piecesFilled += taken;
        return taken;
    }

    /** A place for one product in a machine. */
    private static final class Slot {
        static final int FACTS = 6;

        int capacity;
        int stock;
        int price = 100;
        int demand;
        int sold;
        int lost;

        int lacking() {
            return capacity - stock;
        }

        int fact(int what) {
            switch (what) {
                case 0:
                    return capacity;
                case 1:
                    return stock;
                case 2:
                    return price;
                case 3:
                    return demand;
                case 4:
                    return sold;
                default:
                    return lost;
            }
        }
    }

    /** A machine with its box and its slots. */
    private static final class Machine {
        static final int FACTS = 5;

        final int limit;
        final Slot[] slots = new Slot[PRODUCTS];
        int coins;
        int visits;

        Machine(int limit) {
            this.limit = limit;
            for (int product = 0; product < PRODUCTS; product++) {
                slots[product] = new Slot();
            }
        }

        int lacking() {
            int pieces = 0;
            for (int product = 0; product < PRODUCTS; product++) {
                pieces += slots[product].lacking();
            }
            return pieces;
        }

        int gain() {
            int sum = coins;
            for (int product = 0; product < PRODUCTS; product++) {
                sum += slots[product].price * slots[product].lacking();
            }
            return sum;
        }

        int visitTime() {
            return 3 + (lacking() + 4) / 5;
        }

        int fact(int what) {
            switch (what) {
                case 0:
                    return coins;
                case 1:
                    return limit;
                case 2:
                    return lacking();
                case 3:
                    return gain();
                default:
                    return visits;
            }
        }

        int sellForADay() {
            int pieces = 0;
            for (int product = 0; product < PRODUCTS; product++) {
                pieces += sellFrom(slots[product]);
            }
            return pieces;
        }

        private int sellFrom(Slot slot) {
            int pieces = 0;
            for (int wanted = 0; wanted < slot.demand; wanted++) {
                if (slot.stock > 0 && coins + slot.price <= limit) {
                    slot.stock--;
                    coins += slot.price;
                    pieces++;
                }
            }
            slot.sold += pieces;
            slot.lost += slot.demand - pieces;
            return pieces;
        }

        int emptyBox() {
            int taken = coins;
            coins = 0;
            return taken;
        }

        /** Fills the slots as far as the load lasts; returns how many pieces went in. */
        int fillUp(int load) {
            int left = load;
            for (int product = 0; product < PRODUCTS; product++) {
                int pieces = Math.min(left, slots[product].lacking());
                slots[product].stock += pieces;
                left -= pieces;
            }
            return load - left;
        }
    }

    /** A change of a price that is planned for a later day. */
    private static final class PriceChange {
        final Slot slot;
        final int day;
        final int price;

        PriceChange(Slot slot, int day, int price) {
            this.slot = slot;
            this.day = day;
            this.price = price;
        }
    }

    /** The minutes between the depot and the machines, and the shortest ways through sets of machines. */
    private static final class Roads {
        private static final int PLACES = MOST_MACHINES + 1;

        private final int[] minutes = new int[PLACES * PLACES];

        // At set * MOST_MACHINES + first: the least minutes from machine first through
        // the others of the set to the depot. Kept, as best() asks for every set.
        private final int[] homeward = new int[(1 << MOST_MACHINES) * MOST_MACHINES];

        Roads() {
            for (int i = 0; i < PLACES * PLACES; i++) {
                boolean samePlace = i / PLACES == i % PLACES;
                minutes[i] = samePlace ? 0 : 20;
            }
        }

        int between(int a, int b) {
            return minutes[(a + 1) * PLACES + b + 1];
        }

        void setBetween(int a, int b, int value) {
            minutes[(a + 1) * PLACES + b + 1] = value;
            minutes[(b + 1) * PLACES + a + 1] = value;
        }

        /** Measures anew for all sets of the first machines; smaller sets come first, as larger ones build on them. */
        void measureTours(int count) {
            int sets = 1 << count;
            for (int set = 1; set < sets; set++) {
                for (int first = 0; first < count; first++) {
                    if (contains(set, first)) {
                        homeward[set * MOST_MACHINES + first] = leastFrom(first, without(set, first));
                    }
                }
            }
        }

        /** The least minutes from a place through all machines of a set to the depot. */
        int leastFrom(int here, int left) {
            if (left == 0) {
                return between(here, DEPOT);
            }
            return leastBy(here, nextStop(here, left), left);
        }

        /** The first machine of a shortest way through a set that is not empty; of several the smallest number. */
        int nextStop(int here, int left) {
            int next = DEPOT;
            int least = 0;
            for (int machine = 0; machine < MOST_MACHINES; machine++) {
                if (contains(left, machine)) {
                    int time = leastBy(here, machine, left);
                    if (next == DEPOT || time < least) {
                        next = machine;
                        least = time;
                    }
                }
            }
            return next;
        }

        private int leastBy(int here, int next, int left) {
            return between(here, next) + homeward[left * MOST_MACHINES + next];
        }
    }
}
