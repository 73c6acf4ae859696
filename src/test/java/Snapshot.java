import java.util.function.BooleanSupplier;
import java.util.function.IntSupplier;

/** All that the face tells of an object, as one text: two objects in one state have one text. */
final class Snapshot {
    private final ArrayClaims x;
    private final StringBuilder all = new StringBuilder();
    private final String[] sorts = new String[26];

    private Snapshot(ArrayClaims x) {
        this.x = x;
    }

    /** Asks every question that changes nothing, some 180 of them at most. */
    static String of(ArrayClaims x) {
        Snapshot s = new Snapshot(x);
        s.tellCounts();
        s.tellQuestions();
        s.tellPairs();
        return s.all.toString();
    }

    /** Makes a call of each kind that changes something, fitting or not, and then asks everything. */
    static String afterGoingOn(ArrayClaims x) {
        Snapshot s = new Snapshot(x);
        s.tell("select(6, 2)", () -> x.select(6, 2));
        s.tell("store(6, 1, 4)", () -> x.store(6, 1, 4));
        s.tell("claim()", x::claim);
        s.tell("literal(0, 2, false)", () -> x.literal(0, 2, false));
        s.tell("claim()", x::claim);
        return s.all + of(x);
    }

    /** The first answer in which two snapshots differ, or nothing. */
    static String difference(String due, String got) {
        String[] dueAnswers = due.split("; ");
        String[] gotAnswers = got.split("; ");
        for (int k = 0; k < Math.min(dueAnswers.length, gotAnswers.length); k++) {
            if (!dueAnswers[k].equals(gotAnswers[k])) {
                return gotAnswers[k] + ", where it was " + dueAnswers[k];
            }
        }
        return dueAnswers.length == gotAnswers.length ? "" : "more answers in one of them";
    }

    private String tell(String call, IntSupplier answer) {
        String told = Answer.to(answer);
        all.append(call).append(' ').append(told).append("; ");
        return told;
    }

    private void tell(String call, BooleanSupplier answer) {
        tell(call, () -> answer.getAsBoolean() ? 1 : 0);
    }

    private void tellCounts() {
        tell("terms()", x::terms);
        tell("draft()", x::draft);
        tell("claims()", x::claims);
        tell("sort(-1)", () -> x.sort(-1));
        for (int t = 0; t < sorts.length; t++) {
            int term = t;
            sorts[t] = tell("sort(" + t + ")", () -> x.sort(term));
        }
    }

    private void tellQuestions() {
        tell("can()", x::can);
        tell("first()", x::first);
        for (int k = 0; k < 9; k++) {
            int claim = k;
            tell("without(" + k + ")", () -> x.without(claim));
        }
        tell("follows()", x::follows);
        tell("apart(true)", () -> x.apart(true));
        tell("apart(false)", () -> x.apart(false));
    }

    private void tellPairs() {
        for (int t = 0; t < sorts.length; t++) {
            for (int u = 0; u < t; u++) {
                int left = t;
                int right = u;
                if (sorts[t].equals(sorts[u]) && !sorts[t].equals(Answer.of(ArrayClaims.NONE))) {
                    tell("same(" + t + ", " + u + ")", () -> x.same(left, right));
                }
            }
        }
    }
}
