/** Planners and numbers that tests begin with. */
final class Make {
    private Make() {
    }

    /** Machines whose boxes have the most room. */
    static VendingRounds machines(int count) {
        VendingRounds x = new VendingRounds();
        for (int k = 0; k < count; k++) {
            x.addMachine(100000);
        }
        return x;
    }

    /** One machine with a box, whose product 0 has a full slot; its price is 100. */
    static VendingRounds stocked(int limit, int stock, int demand) {
        VendingRounds x = new VendingRounds();
        x.addMachine(limit);
        x.setSlot(0, 0, stock, demand);
        x.go(1, stock);
        return x;
    }

    /** Lets days pass until it is the day. */
    static void reach(VendingRounds x, int day) {
        int left = day - x.today();
        for (; left > 30; left -= 30) {
            x.pass(30);
        }
        if (left > 0) {
            x.pass(left);
        }
    }

    /** The numbers just outside a range, on both sides, and the farthest ones. */
    static int[] outside(int least, int most) {
        return new int[] {least - 1, most + 1, Integer.MIN_VALUE, Integer.MAX_VALUE};
    }
}
