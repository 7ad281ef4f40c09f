/** Compares answers with those that are due, prints each that is not, and counts them. */
final class Check {
    interface Call {
        long answer();
    }

    interface Test {
        void run();
    }

    private static final int MOST_REPORTS = 50;

    private static String heading = "";
    private static int sentences = 0;
    private static int made = 0;
    private static int wrong = 0;

    private Check() {
    }

    /**
     * Runs the test of one sentence of the document. What it reports is headed by the sentence; an
     * exception that it does not expect is a wrong answer and keeps no other test from running.
     */
    static void sentence(String place, String words, Test test) {
        sentences++;
        heading = place + ", \"" + words + "\": ";
        try {
            test.run();
        } catch (RuntimeException e) {
            report("there was " + e);
        }
        heading = "";
    }

    static void due(String what, long got, long want) {
        made++;
        if (got != want) {
            report(what + " answered " + got + ", due is " + want);
        }
    }

    static void holds(String what, boolean got) {
        made++;
        if (!got) {
            report(what + " does not hold");
        }
    }

    /** The exception must be of the very class that the document names, not of one below it. */
    static void fails(String what, Class<? extends RuntimeException> want, Call call) {
        made++;
        String got = said(call);
        if (!got.equals(want.getName())) {
            report(what + " said " + got + ", due is " + want.getName());
        }
    }

    /** What a call says: its number, or the name of the exception that it throws. */
    static String said(Call call) {
        try {
            return Long.toString(call.answer());
        } catch (RuntimeException e) {
            return e.getClass().getName();
        }
    }

    static void same(String what, Call got, Call want) {
        same(what, said(got), said(want));
    }

    static void same(String what, String got, String want) {
        made++;
        if (!got.equals(want)) {
            report(what + " answered " + got + ", due is " + want);
        }
    }

    static int wrongSoFar() {
        return wrong;
    }

    static void end() {
        String tested = sentences == 0 ? "" : sentences + " sentences, ";
        System.out.println(tested + made + " checks, " + wrong + " wrong");
        if (wrong != 0) {
            System.exit(1);
        }
    }

    private static void report(String line) {
        wrong++;
        if (wrong <= MOST_REPORTS) {
            System.out.println(heading + line);
        }
    }
}
