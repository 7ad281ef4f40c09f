/** Compares answers with those that are due, prints each that is not, and counts them. */
final class Check {
    interface Call {
        long answer();
    }

    private static int wrong = 0;
    private static int made = 0;

    private Check() {
    }

    static void due(String what, long got, long want) {
        made++;
        if (got != want) {
            report(what + " answered " + got + ", due is " + want);
        }
    }

    /** The exception must be of the very class that the document names. */
    static void fails(String what, Class<? extends RuntimeException> want, Call call) {
        due(what + " throws " + want.getSimpleName(), want.getName().equals(said(call)) ? 1 : 0, 1);
    }

    /** What a call says: its number, or the name of the exception that it throws. */
    static String said(Call call) {
        try {
            return Long.toString(call.answer());
        } catch (RuntimeException e) {
            return e.getClass().getName();
        }
    }

    static void same(String what, Call got, Call want) {
        made++;
        String gotWord = said(got);
        String wantWord = said(want);
        if (!gotWord.equals(wantWord)) {
            report(what + " answered " + gotWord + ", due is " + wantWord);
        }
    }

    static int wrongSoFar() {
        return wrong;
    }

    static void end() {
        System.out.println(made + " checks, " + wrong + " wrong");
        if (wrong != 0) {
            System.exit(1);
        }
    }

    private static void report(String line) {
        wrong++;
        if (wrong <= 50) {
            System.out.println(line);
        }
    }
}
