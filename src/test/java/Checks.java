import java.util.function.BooleanSupplier;
import java.util.function.IntSupplier;

/** Counts and prints the answers of one test that are not the ones that are due. */
final class Checks {
    private int wrong = 0;
    private int seen = 0;

    void due(String call, int want, IntSupplier got) {
        seen++;
        String answer;
        try {
            int number = got.getAsInt();
            if (number == want) {
                return;
            }
            answer = String.valueOf(number);
        } catch (RuntimeException e) {
            answer = e.getClass().getName();
        }
        tell(call, answer, String.valueOf(want));
    }

    void due(String call, boolean want, BooleanSupplier got) {
        due(call, want ? 1 : 0, () -> got.getAsBoolean() ? 1 : 0);
    }

    void dueThrow(String call, Class<? extends RuntimeException> want, Runnable run) {
        seen++;
        String answer = "nothing";
        try {
            run.run();
        } catch (RuntimeException e) {
            if (e.getClass() == want) {
                return;
            }
            answer = e.getClass().getName();
        }
        tell(call, "throwing " + answer, "throwing " + want.getName());
    }

    void dueTrue(String what, boolean holds) {
        due(what, true, () -> holds);
    }

    private void tell(String call, String answer, String want) {
        wrong++;
        System.out.println(call + ": answered " + answer + ", due is " + want);
    }

    void addAll(Checks other) {
        wrong += other.wrong;
        seen += other.seen;
    }

    /** Ends the test's program with exit code 1 if an answer was wrong, or if nothing was looked at. */
    void end() {
        System.out.println(seen + " answers, " + wrong + " not as due");
        if (wrong != 0 || seen == 0) {
            System.exit(1);
        }
    }
}
