/** Compares answers with what is due, and counts the ones that are not. */
final class Check {
    interface Call {
        long answer();
    }

    static final Class<?> INDEX = IndexOutOfBoundsException.class;
    static final Class<?> ARGUMENT = IllegalArgumentException.class;
    static final Class<?> STATE = IllegalStateException.class;

    private int wrong = 0;

    void due(String call, long got, long want) {
        if (got != want) {
            tell(call + " answered " + got + ", due is " + want);
        }
    }

    void dueDouble(String call, double got, double want) {
        if (got != want) {
            tell(call + " answered " + got + ", due is " + want);
        }
    }

    /** The call must throw exactly this exception, and change nothing that can be seen. */
    void refused(String what, VendingRounds x, Class<?> due, Call call) {
        long digest = x.digest();
        double filled = x.filled();
        Class<?> thrown = null;
        try {
            call.answer();
        } catch (RuntimeException e) {
            thrown = e.getClass();
        }
        if (thrown != due) {
            tell(what + " threw " + thrown + ", due is " + due);
        }
        due(what + ": the digest after it", x.digest(), digest);
        dueDouble(what + ": filled() after it", x.filled(), filled);
    }

    void tell(String text) {
        wrong++;
        System.out.println(text);
    }

    void finish() {
        if (wrong != 0) {
            System.out.println(wrong + " answers are not as due");
            System.exit(1);
        }
    }
}
