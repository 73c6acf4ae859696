import java.util.function.BooleanSupplier;
import java.util.function.Function;
import java.util.function.IntSupplier;
import java.util.function.Supplier;

/**
 * "A call that throws changes nothing; where several exceptions that a call names fit, it is the one that it names
 * first." Each state is made twice; one of the two gets the refused call, and then both must tell the same, at once
 * and after going on.
 */
public final class RefusedCallsTest {
    private static final String NOTHING_CHANGES = "Terms: A call that throws changes nothing";
    private static final String FIRST_NAMED =
            "Terms: where several exceptions that a call names fit, it is the one that it names first";

    private final Checks c = new Checks();

    private static ArrayClaims brandNew() {
        return new ArrayClaims();
    }

    /** Eleven terms; two claims that can hold; two literals in the draft. */
    private static ArrayClaims ordinary() {
        ArrayClaims x = Make.withTerms(11);
        Make.claim(x, 0, 1, 1, 3, 4, 1);
        Make.claim(x, 7, 8, 0);
        Make.draft(x, 3, 4, 0, 10, 5, 1);
        return x;
    }

    private static ArrayClaims ordinaryWithoutDraft() {
        ArrayClaims x = ordinary();
        x.clear();
        return x;
    }

    /** Claims that can't hold, and a full draft. */
    private static ArrayClaims apartWithFullDraft() {
        ArrayClaims x = Make.withTerms(12);
        Make.claim(x, 0, 1, 1);
        Make.claim(x, 7, 8, 0);
        Make.claim(x, 1, 2, 1);
        Make.draft(x, 3, 4, 0, 0, 2, 0, 5, 6, 1);
        return x;
    }

    private static ArrayClaims apartWithoutDraft() {
        ArrayClaims x = apartWithFullDraft();
        x.clear();
        return x;
    }

    /** 24 terms, eight claims that can hold, three literals. */
    private static ArrayClaims full() {
        ArrayClaims x = Make.withTerms(24);
        Make.claims(x, 7, 0, 1, 0, 3, 7, 1, 12, 14, 0);
        Make.claim(x, 3, 4, 0);
        Make.draft(x, 3, 8, 1, 5, 6, 0, 23, 22, 1);
        return x;
    }

    /** 24 terms, eight claims that can't hold, no literal. */
    private static ArrayClaims fullAndApart() {
        ArrayClaims x = Make.withTerms(24);
        Make.claims(x, 7, 0, 1, 1);
        Make.claim(x, 7, 8, 0);
        return x;
    }

    private void refused(String told, String want, Supplier<ArrayClaims> state,
            Function<ArrayClaims, IntSupplier> call) {
        c.sentence(FIRST_NAMED);
        ArrayClaims x = state.get();
        c.dueThrow(told, want, call.apply(x));
        c.sentence(NOTHING_CHANGES);
        nothingChanged(told, x, state.get());
    }

    private void refusedKeep(Supplier<ArrayClaims> state, int n) {
        c.sentence("Promise 10: False, changing nothing, when n is negative or there are not so many");
        ArrayClaims x = state.get();
        c.due("keep(" + n + ")", false, () -> x.keep(n));
        nothingChanged("keep(" + n + ")", x, state.get());
    }

    private void nothingChanged(String told, ArrayClaims x, ArrayClaims untouched) {
        c.dueAnswer(told + ", then the first question with another answer", "",
                Snapshot.difference(Snapshot.of(untouched), Snapshot.of(x)));
        c.dueAnswer(told + ", then going on, the first call with another answer", "",
                Snapshot.difference(Snapshot.afterGoingOn(untouched), Snapshot.afterGoingOn(x)));
    }

    private void refusedSelect(String want, Supplier<ArrayClaims> state, int a, int i) {
        refused("select(" + a + ", " + i + ")", want, state, x -> () -> x.select(a, i));
    }

    private void refusedStore(String want, Supplier<ArrayClaims> state, int a, int i, int e) {
        refused("store(" + a + ", " + i + ", " + e + ")", want, state, x -> () -> x.store(a, i, e));
    }

    private void refusedLiteral(String want, Supplier<ArrayClaims> state, int t, int u) {
        refused("literal(" + t + ", " + u + ", true)", want, state, x -> () -> x.literal(t, u, true));
        refused("literal(" + t + ", " + u + ", false)", want, state, x -> () -> x.literal(t, u, false));
    }

    private void refusedSame(String want, Supplier<ArrayClaims> state, int t, int u) {
        refused("same(" + t + ", " + u + ")", want, state, x -> () -> x.same(t, u));
    }

    private void refusedWithout(Supplier<ArrayClaims> state, int claim) {
        refused("without(" + claim + ")", Answer.OUT, state, x -> asNumber(() -> x.without(claim)));
    }

    private void refusedFollows(Supplier<ArrayClaims> state) {
        refused("follows()", Answer.STATE, state, x -> asNumber(x::follows));
    }

    private void refusedApart(Supplier<ArrayClaims> state) {
        refused("apart(true)", Answer.STATE, state, x -> () -> x.apart(true));
        refused("apart(false)", Answer.STATE, state, x -> () -> x.apart(false));
    }

    private static IntSupplier asNumber(BooleanSupplier call) {
        return () -> call.getAsBoolean() ? 1 : 0;
    }

    private void selects(Supplier<ArrayClaims> state, boolean isFull) {
        int none = state.get().terms();
        int[] outside = {-1, none, Integer.MIN_VALUE, Integer.MAX_VALUE};
        for (int t : outside) {
            refusedSelect(Answer.OUT, state, t, 0);
            refusedSelect(Answer.OUT, state, 6, t);
            // The other argument is of a wrong sort: that is named behind.
            refusedSelect(Answer.OUT, state, t, 5);
            refusedSelect(Answer.OUT, state, 0, t);
        }
        refusedSelect(Answer.ARGUMENT, state, 0, 1);
        refusedSelect(Answer.ARGUMENT, state, 3, 1);
        refusedSelect(Answer.ARGUMENT, state, 6, 3);
        refusedSelect(Answer.ARGUMENT, state, 6, 6);
        refusedSelect(Answer.ARGUMENT, state, 1, 6);
        if (isFull) {
            refusedSelect(Answer.FULL, state, 6, 0);
            refusedSelect(Answer.FULL, state, 23, 2);
        }
    }

    private void stores(Supplier<ArrayClaims> state, boolean isFull) {
        int none = state.get().terms();
        int[] outside = {-1, none, Integer.MIN_VALUE, Integer.MAX_VALUE};
        for (int t : outside) {
            refusedStore(Answer.OUT, state, t, 0, 4);
            refusedStore(Answer.OUT, state, 6, t, 4);
            refusedStore(Answer.OUT, state, 6, 0, t);
            refusedStore(Answer.OUT, state, t, 3, 3);
            refusedStore(Answer.OUT, state, 3, t, 3);
            refusedStore(Answer.OUT, state, 6, 6, t);
            refusedStore(Answer.OUT, state, 0, 0, t);
        }
        refusedStore(Answer.ARGUMENT, state, 2, 0, 4);
        refusedStore(Answer.ARGUMENT, state, 4, 0, 4);
        refusedStore(Answer.ARGUMENT, state, 6, 3, 4);
        refusedStore(Answer.ARGUMENT, state, 6, 5, 4);
        refusedStore(Answer.ARGUMENT, state, 6, 0, 1);
        refusedStore(Answer.ARGUMENT, state, 6, 0, 5);
        refusedStore(Answer.ARGUMENT, state, 3, 6, 2);
        if (isFull) {
            refusedStore(Answer.FULL, state, 6, 0, 4);
            refusedStore(Answer.FULL, state, 23, 2, 3);
        }
    }

    private void literals(Supplier<ArrayClaims> state, boolean isFull) {
        int none = state.get().terms();
        for (int t : new int[] {-1, none, Integer.MIN_VALUE, Integer.MAX_VALUE}) {
            refusedLiteral(Answer.OUT, state, t, 0);
            refusedLiteral(Answer.OUT, state, 5, t);
            refusedLiteral(Answer.OUT, state, t, t);
        }
        refusedLiteral(Answer.ARGUMENT, state, 0, 3);
        refusedLiteral(Answer.ARGUMENT, state, 5, 1);
        refusedLiteral(Answer.ARGUMENT, state, 4, 6);
        if (isFull) {
            refusedLiteral(Answer.STATE, state, 0, 0);
            refusedLiteral(Answer.STATE, state, 0, 1);
            refusedLiteral(Answer.STATE, state, 3, 4);
            refusedLiteral(Answer.STATE, state, 5, 6);
        }
    }

    private void sames(Supplier<ArrayClaims> state, boolean isApart) {
        int none = state.get().terms();
        for (int t : new int[] {-1, none, Integer.MIN_VALUE, Integer.MAX_VALUE}) {
            refusedSame(Answer.OUT, state, t, 0);
            refusedSame(Answer.OUT, state, 5, t);
            refusedSame(Answer.OUT, state, t, t);
        }
        refusedSame(Answer.ARGUMENT, state, 0, 3);
        refusedSame(Answer.ARGUMENT, state, 5, 1);
        refusedSame(Answer.ARGUMENT, state, 4, 6);
        if (isApart) {
            refusedSame(Answer.STATE, state, 0, 0);
            refusedSame(Answer.STATE, state, 3, 4);
            refusedSame(Answer.STATE, state, 6, 5);
        }
    }

    private void withouts(Supplier<ArrayClaims> state) {
        refusedWithout(state, state.get().claims());
        refusedWithout(state, -1);
        refusedWithout(state, 8);
        refusedWithout(state, Integer.MIN_VALUE);
        refusedWithout(state, Integer.MAX_VALUE);
    }

    private void keeps(Supplier<ArrayClaims> state) {
        refusedKeep(state, state.get().claims() + 1);
        refusedKeep(state, 9);
        refusedKeep(state, -1);
        refusedKeep(state, -state.get().claims() - 1);
        refusedKeep(state, Integer.MIN_VALUE);
        refusedKeep(state, Integer.MAX_VALUE);
    }

    private void claims() {
        refused("claim()", Answer.STATE, RefusedCallsTest::brandNew, x -> x::claim);
        refused("claim()", Answer.STATE, RefusedCallsTest::ordinaryWithoutDraft, x -> x::claim);
        refused("claim()", Answer.STATE, RefusedCallsTest::apartWithoutDraft, x -> x::claim);
        refused("claim() with eight and no draft", Answer.STATE, RefusedCallsTest::fullAndApart, x -> x::claim);
        refused("claim() with eight", Answer.FULL, RefusedCallsTest::full, x -> x::claim);
    }

    private void inAnyState(Supplier<ArrayClaims> state) {
        ArrayClaims x = state.get();
        boolean isApart = !x.can();
        selects(state, x.terms() == 24);
        stores(state, x.terms() == 24);
        literals(state, x.draft() == 3);
        sames(state, isApart);
        withouts(state);
        keeps(state);
        if (x.draft() == 0) {
            refusedFollows(state);
        }
        if (isApart) {
            refusedApart(state);
        }
    }

    private void theStatesAreWhatTheySay() {
        c.sentence("The states of this test");
        c.due("ordinary: can()", true, ordinary()::can);
        c.due("apart: can()", false, apartWithFullDraft()::can);
        c.due("full: can()", true, full()::can);
        c.due("full: terms()", 24, full()::terms);
        c.due("full: claims()", 8, full()::claims);
        c.due("full: draft()", 3, full()::draft);
        c.due("full and apart: can()", false, fullAndApart()::can);
    }

    private Checks run() {
        theStatesAreWhatTheySay();
        inAnyState(RefusedCallsTest::brandNew);
        inAnyState(RefusedCallsTest::ordinary);
        inAnyState(RefusedCallsTest::ordinaryWithoutDraft);
        inAnyState(RefusedCallsTest::apartWithFullDraft);
        inAnyState(RefusedCallsTest::apartWithoutDraft);
        inAnyState(RefusedCallsTest::full);
        inAnyState(RefusedCallsTest::fullAndApart);
        claims();
        return c;
    }

    public static void main(String[] args) {
        new RefusedCallsTest().run().end();
    }
}
