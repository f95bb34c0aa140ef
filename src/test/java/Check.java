/** Compares answers with what is due, and counts the ones that are not. */
final class Check {
    interface Call {
        long answer();
    }

    static final Class<?> INDEX = IndexOutOfBoundsException.class;
    static final Class<?> ARGUMENT = IllegalArgumentException.class;
    static final Class<?> STATE = IllegalStateException.class;

    private int wrong = 0;

    /** The words of the document that are being tested; empty if a test is not for one sentence. */
    private String words = "";

    /** Runs the test of one sentence of the document: what is wrong in it is told with the sentence. */
    void sentence(String sentence, Runnable test) {
        words = "\"" + sentence + "\" ";
        try {
            test.run();
        } catch (RuntimeException e) {
            tell("a call threw " + e);
        }
        words = "";
    }

    void due(String call, long got, long want) {
        if (got != want) {
            tell(call + " answered " + got + ", due is " + want);
        }
    }

    void dueDouble(String call, double got, double want) {
        if (got != want) {
            tell(call + " answered " + got + ", due is " + want);
        }
    }

    /** The call must throw exactly this exception, by a throw of the class itself and not of the machine or a list. */
    void throwsIt(String what, Class<?> due, Call call) {
        RuntimeException thrown = null;
        try {
            call.answer();
        } catch (RuntimeException e) {
            thrown = e;
        }
        if (thrown == null || thrown.getClass() != due) {
            tell(what + " threw " + thrown + ", due is " + due);
        } else if (!isThrownByTheClass(thrown)) {
            tell(what + ": not the class itself threw " + thrown);
        }
    }

    private static boolean isThrownByTheClass(RuntimeException thrown) {
        StackTraceElement[] trace = thrown.getStackTrace();
        return trace.length > 0 && trace[0].getClassName().startsWith("VendingRounds");
    }

    /** The call must throw exactly this exception, and change nothing that can be seen. */
    void refused(String what, VendingRounds x, Class<?> due, Call call) {
        long digest = x.digest();
        double filled = x.filled();
        throwsIt(what, due, call);
        due(what + ": the digest after it", x.digest(), digest);
        dueDouble(what + ": filled() after it", x.filled(), filled);
    }

    void tell(String text) {
        wrong++;
        System.out.println(words + text);
    }

    void finish() {
        if (wrong != 0) {
            System.out.println(wrong + " answers are not as due");
            System.exit(1);
        }
    }
}
