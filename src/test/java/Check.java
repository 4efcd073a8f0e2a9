import java.util.function.Supplier;

/** Compares answers with those that are due, and tells at the end whether all were right. */
final class Check {
    private int wrong = 0;
    private int calls = 0;

    void due(String call, Object want, Supplier<Object> made) {
        calls++;
        String got = answerOf(made);
        if (!got.equals(String.valueOf(want))) {
            wrong++;
            System.out.println(call + " answered " + got + ", due is " + want);
        }
    }

    void dueIndex(String call, Supplier<Object> made) {
        due(call, "throws java.lang.IndexOutOfBoundsException", made);
    }

    void dueArgument(String call, Supplier<Object> made) {
        due(call, "throws java.lang.IllegalArgumentException", made);
    }

    void dueState(String call, Supplier<Object> made) {
        due(call, "throws java.lang.IllegalStateException", made);
    }

    /** An exception is told by its own class, so one that the machine throws is never the due one. */
    static String answerOf(Supplier<Object> call) {
        try {
            return String.valueOf(call.get());
        } catch (RuntimeException thrown) {
            return "throws " + thrown.getClass().getName();
        }
    }

    /** A test that compares nothing shows nothing. */
    boolean isRight() {
        return wrong == 0 && calls > 0;
    }

    void end() {
        System.out.println(calls + " answers, " + wrong + " of them wrong");
        if (!isRight()) {
            System.exit(1);
        }
    }
}
