/**
 * The document once more, in the slowest and most literal way: one call takes its name and
 * its arguments as numbers; a refused call answers one of the three numbers below.
 */
final class Model {
    static final long INDEX = Long.MIN_VALUE;
    static final long ARGUMENT = Long.MIN_VALUE + 1;
    static final long STATE = Long.MIN_VALUE + 2;

    private int count = 0;
    private int day = 0;
    private final int[] limit = new int[8];
    private final int[] coins = new int[8];
    private final int[] visits = new int[8];
    /** machine, product, what: as slot() tells it. */
    private final int[][][] slots = new int[8][6][6];
    /** From 0, the depot; machine k is k + 1. */
    private final int[][] ways = new int[9][9];
    private int plans = 0;
    /** machine, product, day, price. */
    private final int[][] plan = new int[20][];
    private final long[] totals = new long[4];

    /** The best order of each set, null where it is not known. */
    private int[][] orders = new int[256][];
    private int foundDrive;
    private int[] foundOrder;

    Model() {
        for (int[] row : ways) {
            java.util.Arrays.fill(row, 20);
        }
        for (int[][] machine : slots) {
            for (int[] slot : machine) {
                slot[2] = 100;
            }
        }
    }

    private boolean isMachine(int m) {
        return m >= 0 && m < count;
    }

    private boolean isSet(int set) {
        return set >= 0 && set < (int) Math.pow(2, count);
    }

    private static boolean isProduct(int p) {
        return p >= 0 && p <= 5;
    }

    long addMachine(int newLimit) {
        if (newLimit < 100 || newLimit > 100000) {
            return ARGUMENT;
        }
        if (count == 8) {
            return STATE;
        }
        limit[count] = newLimit;
        count++;
        return count - 1;
    }

    long setMinutes(int a, int b, int minutes) {
        if ((a != -1 && !isMachine(a)) || (b != -1 && !isMachine(b))) {
            return INDEX;
        }
        if (a == b || minutes < 1 || minutes > 200) {
            return ARGUMENT;
        }
        int before = ways[a + 1][b + 1];
        ways[a + 1][b + 1] = minutes;
        ways[b + 1][a + 1] = minutes;
        orders = new int[256][];
        return before;
    }

    long setSlot(int m, int p, int capacity, int demand) {
        if (!isMachine(m) || !isProduct(p)) {
            return INDEX;
        }
        if (capacity < 0 || capacity > 30 || demand < 0 || demand > 20) {
            return ARGUMENT;
        }
        int before = slots[m][p][0];
        slots[m][p][0] = capacity;
        slots[m][p][3] = demand;
        while (slots[m][p][1] > capacity) {
            slots[m][p][1]--;
        }
        return before;
    }

    long planPrice(int m, int p, int when, int price) {
        if (!isMachine(m) || !isProduct(p)) {
            return INDEX;
        }
        if (when < day || when > 999 || price < 1 || price > 1000) {
            return ARGUMENT;
        }
        if (when == day) {
            slots[m][p][2] = price;
            return plans;
        }
        if (plans == 20) {
            return STATE;
        }
        plan[plans] = new int[] {m, p, when, price};
        plans++;
        return plans;
    }

    long machineCount() {
        return count;
    }

    long slot(int m, int p, int what) {
        return !isMachine(m) || !isProduct(p) || what < 0 || what > 5 ? INDEX : slots[m][p][what];
    }

    private int lacks(int m) {
        int sum = 0;
        for (int[] slot : slots[m]) {
            sum += slot[0] - slot[1];
        }
        return sum;
    }

    private int gain(int m) {
        int sum = coins[m];
        for (int[] slot : slots[m]) {
            sum += (slot[0] - slot[1]) * slot[2];
        }
        return sum;
    }

    long machine(int m, int what) {
        if (!isMachine(m) || what < 0 || what > 4) {
            return INDEX;
        }
        return new int[] {coins[m], limit[m], lacks(m), gain(m), visits[m]}[what];
    }

    long runsOut(int m, int p) {
        if (!isMachine(m) || !isProduct(p)) {
            return INDEX;
        }
        int stock = slots[m][p][1];
        int demand = slots[m][p][3];
        if (stock == 0 || demand == 0) {
            return -1;
        }
        int when = day;
        for (stock -= demand; stock > 0; stock -= demand) {
            when++;
        }
        return when;
    }

    long pass(int days) {
        if (days < 1 || days > 30) {
            return ARGUMENT;
        }
        if (day + days > 999) {
            return STATE;
        }
        int sold = 0;
        for (int d = 0; d < days; d++) {
            for (int m = 0; m < count; m++) {
                for (int p = 0; p < 6; p++) {
                    for (int piece = 0; piece < slots[m][p][3]; piece++) {
                        sold += sellPiece(m, slots[m][p]);
                    }
                }
            }
            day++;
            beginDay();
        }
        return sold;
    }

    private int sellPiece(int m, int[] slot) {
        if (slot[1] == 0 || coins[m] + slot[2] > limit[m]) {
            slot[5]++;
            return 0;
        }
        slot[1]--;
        slot[4]++;
        coins[m] += slot[2];
        return 1;
    }

    private void beginDay() {
        int kept = 0;
        for (int k = 0; k < plans; k++) {
            int[] change = plan[k];
            if (change[2] == day) {
                slots[change[0]][change[1]][2] = change[3];
            } else {
                plan[kept] = change;
                kept++;
            }
        }
        plans = kept;
    }

    long today() {
        return day;
    }

    long planned() {
        return plans;
    }

    /** Tries all orders in ascending order of their numbers, and keeps the first of the shortest. */
    private int[] orderOf(int set) {
        if (orders[set] == null) {
            foundDrive = Integer.MAX_VALUE;
            foundOrder = new int[0];
            if (set != 0) {
                tryOrders(set, new int[Integer.bitCount(set)], 0);
            }
            orders[set] = foundOrder;
        }
        return orders[set];
    }

    private void tryOrders(int left, int[] order, int length) {
        if (left == 0) {
            int sum = driveOf(order);
            if (sum < foundDrive) {
                foundDrive = sum;
                foundOrder = order.clone();
            }
            return;
        }
        for (int m = 0; m < 8; m++) {
            if ((left & 1 << m) != 0) {
                order[length] = m;
                tryOrders(left - (1 << m), order, length + 1);
            }
        }
    }

    private int driveOf(int[] order) {
        int sum = 0;
        int here = 0;
        for (int m : order) {
            sum += ways[here][m + 1];
            here = m + 1;
        }
        return order.length == 0 ? 0 : sum + ways[here][0];
    }

    long drive(int set) {
        return isSet(set) ? driveOf(orderOf(set)) : ARGUMENT;
    }

    long visit(int set, int index) {
        if (!isSet(set)) {
            return ARGUMENT;
        }
        int[] order = orderOf(set);
        return index < 0 || index >= order.length ? INDEX : order[index];
    }

    long minutes(int set) {
        if (!isSet(set)) {
            return ARGUMENT;
        }
        int[] order = orderOf(set);
        int sum = driveOf(order);
        for (int m : order) {
            sum += 3 + lacks(m) / 5 + (lacks(m) % 5 == 0 ? 0 : 1);
        }
        return sum;
    }

    long best(int most, int load) {
        if (most < 0 || most > 5000 || load < 0 || load > 2000) {
            return ARGUMENT;
        }
        int best = 0;
        for (int set = 1; set < 1 << count; set++) {
            boolean fits = minutes(set) <= most && sumOf(set, false) <= load;
            if (fits && isBetter(set, best)) {
                best = set;
            }
        }
        return best;
    }

    private boolean isBetter(int set, int than) {
        int more = sumOf(set, true) - sumOf(than, true);
        return more != 0 ? more > 0 : minutes(set) < minutes(than);
    }

    private int sumOf(int set, boolean gains) {
        int sum = 0;
        for (int m : orderOf(set)) {
            sum += gains ? gain(m) : lacks(m);
        }
        return sum;
    }

    long go(int set, int load) {
        if (!isSet(set) || load < 0 || load > 2000) {
            return ARGUMENT;
        }
        totals[1] += minutes(set);
        totals[3]++;
        int left = load;
        for (int m : orderOf(set)) {
            totals[0] += coins[m];
            coins[m] = 0;
            visits[m]++;
            for (int[] slot : slots[m]) {
                while (slot[1] < slot[0] && left > 0) {
                    slot[1]++;
                    left--;
                    totals[2]++;
                }
            }
        }
        return left;
    }

    long total(int what) {
        return what < 0 || what > 3 ? INDEX : totals[what];
    }

    double filled() {
        double stocks = 0;
        double capacities = 0;
        for (int m = 0; m < count; m++) {
            for (int[] slot : slots[m]) {
                stocks += slot[1];
                capacities += slot[0];
            }
        }
        return capacities == 0 ? 1 : stocks / capacities;
    }

    long digest() {
        java.util.ArrayList<Long> numbers = new java.util.ArrayList<>();
        numbers.add(today());
        numbers.add(machineCount());
        for (int m = 0; m < count; m++) {
            for (int from = 0; from <= m; from++) {
                numbers.add((long) ways[from][m + 1]);
            }
        }
        for (int m = 0; m < count; m++) {
            for (int what = 0; what < 5; what++) {
                numbers.add(machine(m, what));
            }
            for (int p = 0; p < 6; p++) {
                for (int what = 0; what < 6; what++) {
                    numbers.add(slot(m, p, what));
                }
            }
        }
        numbers.add(planned());
        for (int what = 0; what < 4; what++) {
            numbers.add(total(what));
        }
        long d = 211;
        for (long x : numbers) {
            d = d * 31 + x;
        }
        return d;
    }
}
