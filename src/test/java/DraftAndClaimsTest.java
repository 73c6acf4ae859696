/** Promises 6 to 11: literal, draft, clear, claim, keep, claims. */
public final class DraftAndClaimsTest {
    private static final String OUT = Answer.OUT;
    private static final String ARGUMENT = Answer.ARGUMENT;
    private static final String STATE = Answer.STATE;
    private static final String FULL = Answer.FULL;

    private static void theDraftTakesThree(Checks c) {
        ArrayClaims x = new ArrayClaims();
        c.due("literal(0, 0, false)", 1, () -> x.literal(0, 0, false));
        c.due("draft() with one", 1, x::draft);
        c.due("literal(0, 0, false) again", 2, () -> x.literal(0, 0, false));
        c.due("literal(5, 6, true)", 3, () -> x.literal(5, 6, true));
        c.dueThrow("literal(3, 4, true), a fourth", STATE, () -> x.literal(3, 4, true));
        c.dueThrow("literal(5, 6, true), which it has", STATE, () -> x.literal(5, 6, true));
        c.dueThrow("literal(7, 0, true), a fourth", OUT, () -> x.literal(7, 0, true));
        c.dueThrow("literal(0, 3, true), a fourth", ARGUMENT, () -> x.literal(0, 3, true));
        c.due("draft() with three", 3, x::draft);
        x.clear();
        c.due("draft() after clear()", 0, x::draft);
        x.clear();
        c.due("draft() after clear() twice", 0, x::draft);
        c.due("literal(3, 4, true) after clear()", 1, () -> x.literal(3, 4, true));
        c.due("claims() stays", 0, x::claims);
    }

    private static void aClearedDraftIsForgotten(Checks c) {
        ArrayClaims x = new ArrayClaims();
        x.literal(0, 1, true);
        x.clear();
        x.literal(0, 1, false);
        c.due("claim()", 0, x::claim);
        c.due("same(0, 1)", ArrayClaims.NEVER, () -> x.same(0, 1));
    }

    private static void wrongLiteralsAreRefused(Checks c) {
        ArrayClaims x = new ArrayClaims();
        for (int t : new int[] {-1, 7, 24, Integer.MIN_VALUE, Integer.MAX_VALUE}) {
            c.dueThrow("literal(" + t + ", 0, true)", OUT, () -> x.literal(t, 0, true));
            c.dueThrow("literal(0, " + t + ", true)", OUT, () -> x.literal(0, t, true));
            c.dueThrow("literal(" + t + ", " + t + ", false)", OUT, () -> x.literal(t, t, false));
        }
        for (int t = 0; t < 7; t++) {
            for (int u = 0; u < 7; u++) {
                int left = t;
                int right = u;
                if (x.sort(t) != x.sort(u)) {
                    c.dueThrow("literal(" + t + ", " + u + ", true)", ARGUMENT, () -> x.literal(left, right, true));
                }
            }
        }
        c.due("draft() after the refusals", 0, x::draft);
    }

    private static void aClaimTakesTheDraft(Checks c) {
        ArrayClaims x = new ArrayClaims();
        c.dueThrow("claim() without a draft", STATE, x::claim);
        c.due("claims() after the refusal", 0, x::claims);
        x.literal(0, 1, true);
        c.due("first claim()", 0, x::claim);
        c.due("draft() after claim()", 0, x::draft);
        c.dueThrow("claim() after claim()", STATE, x::claim);
        x.literal(1, 2, true);
        x.literal(3, 4, true);
        x.literal(5, 6, true);
        c.due("second claim()", 1, x::claim);
        c.due("claims()", 2, x::claims);
    }

    private static void thereAreEightClaimsAtMost(Checks c) {
        ArrayClaims x = Make.withClaims(8);
        c.due("full: claims()", 8, x::claims);
        c.dueThrow("full: claim() without a draft", STATE, x::claim);
        x.literal(0, 1, false);
        c.dueThrow("full: claim()", FULL, x::claim);
        c.due("full: claims() after the refusal", 8, x::claims);
        c.due("full: draft() after the refusal", 1, x::draft);
        c.due("full: can()", true, x::can);
        c.due("keep(7)", true, () -> x.keep(7));
        c.due("draft() after keep(7)", 1, x::draft);
        c.due("claim() after keep(7)", 7, x::claim);
        c.due("can() after it", false, x::can);
        c.due("first() after it", 7, x::first);
    }

    private static void keepStays(Checks c) {
        ArrayClaims x = new ArrayClaims();
        c.due("keep(0) without claims", true, () -> x.keep(0));
        c.due("keep(1) without claims", false, () -> x.keep(1));
        c.due("keep(-1) without claims", false, () -> x.keep(-1));
        x.select(5, 0);
        x.literal(0, 1, true);
        x.claim();
        x.literal(1, 2, true);
        x.claim();
        x.literal(0, 2, false);
        x.claim();
        x.literal(3, 4, true);
        for (int n : new int[] {-1, 4, 8, Integer.MIN_VALUE, Integer.MAX_VALUE}) {
            c.due("keep(" + n + ")", false, () -> x.keep(n));
            c.due("claims() after it", 3, x::claims);
        }
        c.due("can()", false, x::can);
        c.due("keep(3)", true, () -> x.keep(3));
        c.due("claims() after keep(3)", 3, x::claims);
        c.due("keep(2)", true, () -> x.keep(2));
        c.due("claims() after keep(2)", 2, x::claims);
        c.due("can() after keep(2)", true, x::can);
        c.due("same(0, 2) after keep(2)", ArrayClaims.ALWAYS, () -> x.same(0, 2));
        c.due("draft() after keep(2)", 1, x::draft);
        c.due("terms() after keep(2)", 8, x::terms);
        c.due("claim() after keep(2)", 2, x::claim);
        c.due("same(3, 4)", ArrayClaims.ALWAYS, () -> x.same(3, 4));
        c.due("keep(0)", true, () -> x.keep(0));
        c.due("claims() after keep(0)", 0, x::claims);
        c.due("same(0, 1) after keep(0)", ArrayClaims.MAYBE, () -> x.same(0, 1));
    }

    public static void main(String[] args) {
        Checks c = new Checks();
        theDraftTakesThree(c);
        aClearedDraftIsForgotten(c);
        wrongLiteralsAreRefused(c);
        aClaimTakesTheDraft(c);
        thereAreEightClaimsAtMost(c);
        keepStays(c);
        c.end();
    }
}
