import java.util.function.BooleanSupplier;
import java.util.function.IntSupplier;

/** Counts and prints the answers of one test that are not the ones that are due. */
final class Checks {
    private int wrong = 0;
    private int seen = 0;
    private String sentence = "";

    /** The document's sentence that the next answers are looked at for; it is printed with each wrong one. */
    void sentence(String words) {
        sentence = words + ": ";
    }

    void due(String call, int want, IntSupplier got) {
        dueAnswer(call, Answer.of(want), Answer.to(got));
    }

    void due(String call, boolean want, BooleanSupplier got) {
        dueAnswer(call, Answer.of(want), Answer.to(got));
    }

    void dueThrow(String call, String want, IntSupplier got) {
        dueAnswer(call, want, Answer.to(got));
    }

    void dueThrow(String call, String want, BooleanSupplier got) {
        dueAnswer(call, want, Answer.to(got));
    }

    void dueAnswer(String call, String want, String got) {
        seen++;
        if (!got.equals(want)) {
            wrong++;
            System.out.println(sentence + call + ": answered " + got + ", due is " + want);
        }
    }

    void dueTrue(String what, boolean holds) {
        dueAnswer(what, Answer.of(true), Answer.of(holds));
    }

    void addAll(Checks other) {
        wrong += other.wrong;
        seen += other.seen;
    }

    /** Ends the test's program with exit code 1 if an answer was wrong, or if nothing was looked at. */
    void end() {
        System.out.println(seen + " answers, " + wrong + " not as due");
        if (wrong != 0 || seen == 0) {
            System.exit(1);
        }
    }
}
