/** Counts what holds and tells what does not, for the tests that share it. */
final class Checks {
    static final long MOST = 1000000000000000L;
    static final Class<?> INDEX = IndexOutOfBoundsException.class;
    static final Class<?> ARGUMENT = IllegalArgumentException.class;
    static final Class<?> STATE = IllegalStateException.class;

    private int passed = 0;
    private int failed = 0;
    private String promise = "";

    interface Call {
        Object answer();
    }

    interface Step {
        void go();
    }

    void promise(String name) {
        promise = name;
    }

    void due(String what, Object got, Object want) {
        if (got.equals(want)) {
            passed++;
        } else {
            failed++;
            System.out.println(promise + ": " + what + " answered " + got + ", due is " + want);
        }
    }

    void due(String what, long got, long want) {
        due(what, (Object) got, (Object) want);
    }

    void due(String what, boolean isSo) {
        due(what, (Object) isSo, (Object) true);
    }

    void thrown(String what, Class<?> type, Call call) {
        due(what, outcome(call), type.getName());
    }

    void thrownBy(String what, Class<?> type, Step step) {
        due(what, outcome(step), type.getName());
    }

    /** What a call comes to: its answer, or the name of what it throws. */
    static String outcome(Call call) {
        try {
            return "the answer " + call.answer();
        } catch (RuntimeException e) {
            return e.getClass().getName();
        }
    }

    static String outcome(Step step) {
        return outcome(() -> {
            step.go();
            return "none";
        });
    }

    /** Tells how many passed and failed, as the last line, and ends. */
    void end() {
        System.out.println(passed + " passed, " + failed + " failed");
        System.exit(failed == 0 ? 0 : 1);
    }
}
