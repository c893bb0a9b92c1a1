import java.util.function.BooleanSupplier;
import java.util.function.IntSupplier;

/** Compares answers with those that are due, prints the wrong ones and ends a test. */
final class Due {
    private static final int ARGUMENT = -101;
    private static final int STATE = -102;
    private static final int OTHER = -103;

    private final String test;
    private String sentence = "";
    private int wrong = 0;

    Due(String test) {
        this.test = test;
    }

    /** What follows tests these words of the document; wrong answers are told with them. */
    void sentence(String words) {
        sentence = words;
    }

    void is(String call, int got, int want) {
        if (got != want) {
            wrong++;
            System.out.println(test + ": " + call + " answered " + told(got) + ", due is " + told(want)
                    + (sentence.isEmpty() ? "" : "; the document: \"" + sentence + "\""));
        }
    }

    void isTrue(String call, boolean got) {
        is(call, got ? 1 : 0, 1);
    }

    void isFalse(String call, boolean got) {
        is(call, got ? 1 : 0, 0);
    }

    void answers(String call, int want, IntSupplier got) {
        is(call, outcome(got), want);
    }

    void passes(String call, Runnable got) {
        is(call, outcome(() -> { got.run(); return 0; }), 0);
    }

    void refusesArgument(String call, Runnable got) {
        is(call, outcome(() -> { got.run(); return 0; }), ARGUMENT);
    }

    void refusesState(String call, Runnable got) {
        is(call, outcome(() -> { got.run(); return 0; }), STATE);
    }

    /** Looks at dropped for all reasons: those told (reason, number, reason, number ..), 0 for all others. */
    void drops(String when, TwinNetwork x, int... due) {
        int[] want = new int[12];
        for (int i = 0; i < due.length; i += 2) {
            want[due[i]] = due[i + 1];
        }
        for (int reason = 0; reason < 12; reason++) {
            is("dropped(" + reason + ") " + when, x.dropped(reason), want[reason]);
        }
    }

    /** The answer, or a number that stands for the exception. */
    static int outcome(IntSupplier call) {
        try {
            return call.getAsInt();
        } catch (IllegalArgumentException e) {
            return ARGUMENT;
        } catch (IllegalStateException e) {
            return STATE;
        } catch (RuntimeException e) {
            return OTHER;
        }
    }

    static int outcomeOf(BooleanSupplier call) {
        return outcome(() -> call.getAsBoolean() ? 1 : 0);
    }

    private static String told(int outcome) {
        switch (outcome) {
            case ARGUMENT: return "throws.IllegalArgumentException";
            case STATE: return "throws.IllegalStateException";
            case OTHER: return "throws another exception";
            default: return Integer.toString(outcome);
        }
    }

    void end() {
        System.out.println(test + ": " + (wrong == 0 ? "all answers are as due" : wrong + " answers are not as due"));
        if (wrong != 0) {
            System.exit(1);
        }
    }
}
