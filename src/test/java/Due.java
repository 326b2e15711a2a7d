import java.util.function.IntSupplier;

/** Counts the answers that are not as due; a test ends by calling end(). */
final class Due {
    private static final int LINES = 40;
    private int wrong = 0;

    void answer(String call, int want, IntSupplier got) {
        outcome(call, Integer.toString(want), outcomeOf(got));
    }

    void does(String call, Runnable got) {
        outcome(call, "0", outcomeOf(asSupplier(got)));
    }

    void refusal(String call, Class<? extends RuntimeException> want, IntSupplier got) {
        outcome(call, want.getSimpleName(), outcomeOf(got));
    }

    void refusal(String call, Class<? extends RuntimeException> want, Runnable got) {
        outcome(call, want.getSimpleName(), outcomeOf(asSupplier(got)));
    }

    void outcome(String call, String want, String got) {
        if (!want.equals(got)) {
            wrong++;
            if (wrong <= LINES) {
                System.out.println(call + " answered " + got + ", due is " + want);
            }
        }
    }

    void that(String what, boolean holds) {
        outcome(what, "true", Boolean.toString(holds));
    }

    void end() {
        if (wrong != 0) {
            System.out.println(wrong + " answers are not as due");
            System.exit(1);
        }
    }

    static IntSupplier asSupplier(Runnable call) {
        return () -> {
            call.run();
            return 0;
        };
    }

    /** The answer as a text, or the simple name of the exception. */
    static String outcomeOf(IntSupplier call) {
        try {
            return Integer.toString(call.getAsInt());
        } catch (RuntimeException e) {
            return e.getClass().getSimpleName();
        }
    }
}
