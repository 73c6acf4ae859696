/** "An object is used for at most 512 calls after it has been made": the last of them are answered as the first. */
public final class LastCallsTest {
    private static final int MOST_CALLS = 512;

    private final Checks c = new Checks();

    private void claimsComeAndGo() {
        c.sentence("What it is: at most 512 calls (claims that come and go)");
        ArrayClaims x = new ArrayClaims();
        for (int round = 0; round < MOST_CALLS / 4; round++) {
            boolean same = round % 2 == 0;
            String told = "round " + round + ": ";
            c.due(told + "literal(0, 1, " + same + ")", 1, () -> x.literal(0, 1, same));
            c.due(told + "claim()", 0, x::claim);
            c.due(told + "same(0, 1)", same ? ArrayClaims.ALWAYS : ArrayClaims.NEVER, () -> x.same(0, 1));
            c.due(told + "keep(0)", true, () -> x.keep(0));
        }
    }

    private void draftsComeAndGo() {
        c.sentence("What it is: at most 512 calls (drafts that come and go)");
        ArrayClaims x = new ArrayClaims();
        for (int round = 0; round < MOST_CALLS / 4; round++) {
            String told = "round " + round + ": ";
            c.due(told + "literal(3, 3, false)", 1, () -> x.literal(3, 3, false));
            c.due(told + "follows()", false, x::follows);
            x.clear();
            c.due(told + "draft()", 0, x::draft);
        }
    }

    private void termsAreAskedForAgain() {
        c.sentence("What it is: at most 512 calls (terms that are asked for again)");
        ArrayClaims x = new ArrayClaims();
        for (int call = 0; call < MOST_CALLS / 2; call++) {
            int i = call % 3;
            c.due("call " + call + ": select(5, " + i + ")", 7 + 2 * i, () -> x.select(5, i));
            c.due("call " + call + ": store(6, " + i + ", 4)", 8 + 2 * i, () -> x.store(6, i, 4));
        }
        ArrayClaims full = Make.withTerms(24);
        for (int call = 17; call < MOST_CALLS; call++) {
            c.dueThrow("call " + call + ": a 25th term", Answer.FULL, () -> full.select(6, 0));
        }
    }

    private void questionsAskedAgain() {
        c.sentence("What it is: at most 512 calls (one question again and again)");
        ArrayClaims x = Make.comingApart(8);
        for (int call = 16; call < MOST_CALLS; call += 4) {
            c.due("call " + call + ": first()", 7, x::first);
            c.due("call " + call + ": can()", false, x::can);
            c.due("call " + call + ": without(7)", true, () -> x.without(7));
            c.dueThrow("call " + call + ": apart(true)", Answer.STATE, () -> x.apart(true));
        }
    }

    private Checks run() {
        claimsComeAndGo();
        draftsComeAndGo();
        termsAreAskedForAgain();
        questionsAskedAgain();
        return c;
    }

    public static void main(String[] args) {
        new LastCallsTest().run().end();
    }
}
