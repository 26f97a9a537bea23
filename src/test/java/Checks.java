/** Counts the answers that are not as due, and ends the test that has one. */
final class Checks {
    private static final int SHOWN = 40;
    private static int wrong = 0;
    private static int made = 0;

    private Checks() {
    }

    static void due(String call, long got, long want) {
        made++;
        if (got != want) {
            tell(call + " answered " + got + ", due is " + want);
        }
    }

    static void dueThrow(String call, Class<? extends Exception> want, Runnable body) {
        made++;
        try {
            body.run();
            tell(call + " threw nothing, due is " + want.getSimpleName());
        } catch (RuntimeException e) {
            if (e.getClass() != want) {
                tell(call + " threw " + e.getClass().getSimpleName() + ", due is " + want.getSimpleName());
            }
        }
    }

    static void dueIllegal(String call, Runnable body) {
        dueThrow(call, IllegalArgumentException.class, body);
    }

    static void dueBadState(String call, Runnable body) {
        dueThrow(call, IllegalStateException.class, body);
    }

    static void dueMissing(String call, Runnable body) {
        dueThrow(call, java.util.NoSuchElementException.class, body);
    }

    static void tell(String fault) {
        wrong++;
        if (wrong <= SHOWN) {
            System.out.println(fault);
        }
    }

    static boolean allRight() {
        return wrong == 0;
    }

    static void end() {
        System.out.println(wrong == 0 ? made + " answers, all as due" : wrong + " answers are not as due");
        if (wrong != 0) {
            System.exit(1);
        }
    }
}
