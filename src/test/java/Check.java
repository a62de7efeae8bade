import java.util.NoSuchElementException;

/** Counts the checks of the tests and prints those that fail. */
final class Check {
    interface Call {
        Object answer();
    }

    interface Action {
        void carryOut();
    }

    private int passed = 0;
    private int failed = 0;

    void same(String what, Object got, Object want) {
        if (got.equals(want)) {
            passed++;
        } else {
            failed++;
            System.out.println(what + " answered " + got + ", due is " + want);
        }
    }

    /** For texts of many lines: prints only the first line that differs. */
    void sameLines(String what, String got, String want) {
        String[] gotLines = got.split("\n");
        String[] wantLines = want.split("\n");
        int line = 0;
        while (line < gotLines.length && line < wantLines.length && gotLines[line].equals(wantLines[line])) {
            line++;
        }
        String end = "the end";
        same(what, line < gotLines.length ? gotLines[line] : end, line < wantLines.length ? wantLines[line] : end);
    }

    /** The class must be the very one: what the machine throws is often a class below it. */
    void fails(String what, Class<? extends RuntimeException> kind, Action action) {
        same(what, outcome(() -> {
            action.carryOut();
            return "no exception";
        }), "throws " + kind.getName());
    }

    void bad(String what, Action action) {
        fails(what, IllegalArgumentException.class, action);
    }

    void refused(String what, Action action) {
        fails(what, IllegalStateException.class, action);
    }

    void outside(String what, Action action) {
        fails(what, IndexOutOfBoundsException.class, action);
    }

    void missing(String what, Action action) {
        fails(what, NoSuchElementException.class, action);
    }

    void undefined(String what, Action action) {
        fails(what, ArithmeticException.class, action);
    }

    void broke(Exception e) {
        failed++;
        e.printStackTrace(System.out);
    }

    static Object outcome(Call call) {
        try {
            return call.answer();
        } catch (RuntimeException e) {
            return "throws " + e.getClass().getName();
        }
    }

    int failures() {
        return failed;
    }

    String summary() {
        return passed + " passed, " + failed + " failed";
    }
}
