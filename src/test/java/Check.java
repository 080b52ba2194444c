/** Compares answers with those that are due, prints each one that is not, and counts them. */
final class Check {
    interface Call {
        long answer();
    }

    private static int wrong = 0;
    private static int checks = 0;

    private Check() {
    }

    static void due(String name, long want, Call call) {
        String got = outcome(call);
        report(name, Long.toString(want), got);
    }

    static void refused(String name, Class<? extends RuntimeException> want, Call call) {
        report(name, want.getName(), outcome(call));
    }

    static void fine(String name, Runnable call) {
        due(name, 0, () -> {
            call.run();
            return 0;
        });
    }

    static void refused(String name, Class<? extends RuntimeException> want, Runnable call) {
        refused(name, want, (Call) () -> {
            call.run();
            return 0;
        });
    }

    /** The answer as a text, or the name of the very class that was thrown. */
    static String outcome(Call call) {
        try {
            return Long.toString(call.answer());
        } catch (RuntimeException e) {
            return e.getClass().getName();
        }
    }

    static void report(String name, String want, String got) {
        checks++;
        if (!want.equals(got)) {
            wrong++;
            System.out.println(name + " answered " + got + ", due is " + want);
        }
    }

    static int wrongSoFar() {
        return wrong;
    }

    static void end() {
        System.out.println(checks + " checks, " + wrong + " wrong");
        if (wrong != 0) {
            System.exit(1);
        }
    }
}
