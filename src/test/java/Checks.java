/** What the project's tests share: counting of answers, and calls that have to be refused. */
final class Checks {
    interface Call {
        long run();
    }

    static final Class<?> INDEX = IndexOutOfBoundsException.class;
    static final Class<?> ARGUMENT = IllegalArgumentException.class;
    static final Class<?> STATE = IllegalStateException.class;

    private static int passed = 0;
    private static int failed = 0;

    private Checks() {
    }

    static void due(String what, long got, long want) {
        tell(got == want, what + " answered " + got + ", due is " + want);
    }

    static void due(String what, String got, String want) {
        tell(got.equals(want), what + " answered '" + got + "', due is '" + want + "'");
    }

    static void dueDouble(String what, double got, double want) {
        tell(got == want, what + " answered " + got + ", due is " + want);
    }

    static void holds(String what, boolean held) {
        tell(held, what + " does not hold");
    }

    /** The exact class is asked for: one that the machine throws is a subclass of it, and wrong. */
    static void refused(HeatBranches x, Class<?> kind, String what, Call call) {
        long before = x.digest();
        String thrown = "nothing";
        try {
            call.run();
        } catch (RuntimeException e) {
            thrown = e.getClass().getName();
        }
        tell(thrown.equals(kind.getName()), what + " threw " + thrown + ", due is " + kind.getName());
        tell(x.digest() == before, what + " was refused, but has changed something");
    }

    static void finish(String test) {
        System.out.println(test + ": " + passed + " passed, " + failed + " failed");
        if (failed != 0 || passed == 0) {
            System.exit(1);
        }
    }

    private static void tell(boolean good, String complaint) {
        if (good) {
            passed++;
        } else {
            failed++;
            System.out.println(complaint);
        }
    }
}
