/** Promises 10 to 12: a test for each sentence that names a boundary case or a refused call. */
public final class DayEdgesTest {
    private static final Check check = new Check();

    public static void main(String[] args) {
        check.sentence("Lets days pass, one after the other.", () -> oneAfterTheOther());
        check.sentence("Returns how many pieces were sold in them.", () -> piecesSoldInThem());
        check.sentence("Throws `IllegalArgumentException` if days is not 1 to 30", () -> daysRange());
        check.sentence("Throws `IllegalStateException` if it would be later than day 999", () -> laterThanTheLastDay());
        check.sentence("Returns the day that it is.", () -> today());
        check.sentence("Returns how many changes of prices are planned for later days.", () -> planned());
        check.finish();
    }

    private static void oneAfterTheOther() {
        VendingRounds x = Make.stocked(100000, 30, 1);
        VendingRounds y = Make.stocked(100000, 30, 1);
        for (int day = 1; day <= 6; day += 2) {
            x.planPrice(0, 0, day, 10 * day);
            y.planPrice(0, 0, day, 10 * day);
        }
        x.pass(7);
        for (int day = 0; day < 7; day++) {
            y.pass(1);
        }
        check.due("the coins of seven days", x.machine(0, 0), 100 + 10 + 10 + 30 + 30 + 50 + 50);
        check.due("the coins of seven single days", y.machine(0, 0), x.machine(0, 0));
        check.due("the digest of seven single days", y.digest(), x.digest());
    }

    private static void piecesSoldInThem() {
        check.due("pass(30) without machines", new VendingRounds().pass(30), 0);
        VendingRounds x = Make.stocked(100000, 30, 4);
        x.setSlot(0, 5, 30, 1);
        x.go(1, 2000);
        check.due("pass(1)", x.pass(1), 5);
        check.due("pass(2): not those of before", x.pass(2), 10);
        check.due("pass(30): until nothing is left", x.pass(30), 18 + 27);
        check.due("pass(1): nothing is left", x.pass(1), 0);
        VendingRounds full = Make.stocked(100, 30, 4);
        check.due("pass(30): until the box is full", full.pass(30), 1);
    }

    private static void daysRange() {
        VendingRounds x = Make.stocked(100000, 30, 1);
        for (int days : Make.outside(1, 30)) {
            check.refused("pass(" + days + ")", x, Check.ARGUMENT, () -> x.pass(days));
        }
        int[] allowed = {1, 2, 29, 30};
        int today = 0;
        for (int days : allowed) {
            x.pass(days);
            today += days;
            check.due("today() behind pass(" + days + ")", x.today(), today);
        }
    }

    private static void laterThanTheLastDay() {
        VendingRounds x = Make.stocked(100000, 30, 0);
        Make.reach(x, 969);
        VendingRounds y = Make.stocked(100000, 30, 0);
        Make.reach(y, 970);
        check.refused("pass(30) on day 970", y, Check.STATE, () -> y.pass(30));
        check.due("pass(30) on day 969", x.pass(30), 0);
        check.due("today()", x.today(), 999);
        x.setSlot(0, 0, 30, 1);
        check.refused("pass(1) on day 999", x, Check.STATE, () -> x.pass(1));
        check.refused("pass(30) on day 999", x, Check.STATE, () -> x.pass(30));
        check.due("pass(28) on day 970", y.pass(28), 0);
        y.setSlot(0, 0, 30, 1);
        check.refused("pass(2) on day 998", y, Check.STATE, () -> y.pass(2));
        check.due("pass(1) on day 998", y.pass(1), 1);
        check.due("today()", y.today(), 999);
    }

    private static void today() {
        VendingRounds x = new VendingRounds();
        check.due("today() at first", x.today(), 0);
        Make.reach(x, 999);
        check.due("today() at last", x.today(), 999);
        check.throwsIt("pass(1)", Check.STATE, () -> x.pass(1));
        check.due("today() behind a refused day", x.today(), 999);
    }

    private static void planned() {
        VendingRounds x = Make.machines(1);
        check.due("planned() at first", x.planned(), 0);
        x.planPrice(0, 0, 0, 5);
        check.due("planned(): a change for today does not count", x.planned(), 0);
        for (int k = 1; k <= 20; k++) {
            x.planPrice(0, 0, 1 + k / 11, 5);
            check.due("planned()", x.planned(), k);
        }
        check.throwsIt("the 21st", Check.STATE, () -> x.planPrice(0, 0, 1, 5));
        check.due("planned() behind a refused one", x.planned(), 20);
        x.pass(1);
        check.due("planned() on day 1", x.planned(), 10);
        x.pass(1);
        check.due("planned() on day 2", x.planned(), 0);
    }
}
