/** Counts the checks of the tests and prints those that fail. */
final class Check {
    interface Call {
        Object answer();
    }

    interface Action {
        void carryOut();
    }

    private int passed = 0;
    private int failed = 0;

    void same(String what, Object got, Object want) {
        if (got.equals(want)) {
            passed++;
        } else {
            failed++;
            System.out.println(what + " answered " + got + ", due is " + want);
        }
    }

    /** The class must be the very one: what the machine throws is often a class below it. */
    void fails(String what, Class<? extends RuntimeException> kind, Action action) {
        same(what, outcome(() -> {
            action.carryOut();
            return "no exception";
        }), "throws " + kind.getName());
    }

    void bad(String what, Action action) {
        fails(what, IllegalArgumentException.class, action);
    }

    void refused(String what, Action action) {
        fails(what, IllegalStateException.class, action);
    }

    void outside(String what, Action action) {
        fails(what, IndexOutOfBoundsException.class, action);
    }

    static Object outcome(Call call) {
        try {
            return call.answer();
        } catch (RuntimeException e) {
            return "throws " + e.getClass().getName();
        }
    }

    int failures() {
        return failed;
    }

    String summary() {
        return passed + " passed, " + failed + " failed";
    }
}
