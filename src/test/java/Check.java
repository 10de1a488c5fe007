/** Counts answers that are not the ones that are due, and prints each. */
final class Check {
    private int wrong = 0;

    interface Call {
        long answer();
    }

    void same(String call, long got, long due) {
        if (got != due) {
            wrong++;
            System.out.println(call + " answered " + got + ", due is " + due);
        }
    }

    void same(String call, String got, String due) {
        if (!got.equals(due)) {
            wrong++;
            System.out.println(call + " answered " + got + ", due is " + due);
        }
    }

    /** The call throws exactly that exception, and nothing that can be asked of x changes. */
    void fails(Strikehall x, int contracts, String call, Class<?> due, Call made) {
        String before = Snapshot.of(x, contracts);
        same(call, outcome(made), "throws." + due.getSimpleName());
        same(call + ", what stands then", Snapshot.of(x, contracts), before);
    }

    static String outcome(Call made) {
        try {
            return String.valueOf(made.answer());
        } catch (RuntimeException e) {
            return (isThrownByLibrary(e) ? "library." : "throws.") + e.getClass().getSimpleName();
        }
    }

    // the program tests what it asks of the library, and throws by itself
    private static boolean isThrownByLibrary(RuntimeException e) {
        StackTraceElement[] trace = e.getStackTrace();
        return trace.length > 0 && trace[0].getModuleName() != null;
    }

    void end(String test) {
        System.out.println(test + ": " + (wrong == 0 ? "all answers are as due" : wrong + " answers are not as due"));
        if (wrong != 0) {
            System.exit(1);
        }
    }
}
