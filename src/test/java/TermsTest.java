/** Promises 1 to 5: a new object, select, store, terms, sort. */
public final class TermsTest {
    private static final String OUT = Answer.OUT;
    private static final String ARGUMENT = Answer.ARGUMENT;
    private static final String FULL = Answer.FULL;
    private static final int[] NO_TERMS = {-1, 7, 24, 25, Integer.MIN_VALUE, Integer.MAX_VALUE};

    private static void aNewObject(Checks c) {
        ArrayClaims x = new ArrayClaims();
        c.due("new: terms()", 7, x::terms);
        c.due("new: claims()", 0, x::claims);
        c.due("new: draft()", 0, x::draft);
        c.due("new: can()", true, x::can);
        c.due("new: first()", -1, x::first);
        for (int t = 0; t < 7; t++) {
            int term = t;
            c.due("new: sort(" + t + ")", t < 3 ? 0 : t < 5 ? 1 : 2, () -> x.sort(term));
        }
        for (int t : NO_TERMS) {
            c.due("new: sort(" + t + ")", ArrayClaims.NONE, () -> x.sort(t));
        }
    }

    private static void twoObjectsShareNothing(Checks c) {
        ArrayClaims x = new ArrayClaims();
        ArrayClaims y = new ArrayClaims();
        x.select(5, 0);
        x.literal(0, 1, true);
        x.claim();
        x.literal(0, 1, true);
        c.due("other object: terms()", 7, y::terms);
        c.due("other object: claims()", 0, y::claims);
        c.due("other object: draft()", 0, y::draft);
    }

    private static void madeTermsHaveNumbersAndSorts(Checks c) {
        ArrayClaims x = new ArrayClaims();
        c.due("select(5, 0)", 7, () -> x.select(5, 0));
        c.due("store(5, 0, 7)", 8, () -> x.store(5, 0, 7));
        c.due("select(8, 2)", 9, () -> x.select(8, 2));
        c.due("store(8, 0, 7)", 10, () -> x.store(8, 0, 7));
        c.due("terms()", 11, x::terms);
        c.due("sort(7)", 1, () -> x.sort(7));
        c.due("sort(8)", 2, () -> x.sort(8));
        c.due("sort(9)", 1, () -> x.sort(9));
        c.due("sort(10)", 2, () -> x.sort(10));
        c.due("sort(11)", -1, () -> x.sort(11));
        c.due("select(5, 0) again", 7, () -> x.select(5, 0));
        c.due("store(5, 0, 7) again", 8, () -> x.store(5, 0, 7));
        c.due("select(5, 1) is another", 11, () -> x.select(5, 1));
        c.due("select(6, 0) is another", 12, () -> x.select(6, 0));
        c.due("store(5, 1, 7) is another", 13, () -> x.store(5, 1, 7));
        c.due("store(5, 0, 3) is another", 14, () -> x.store(5, 0, 3));
        c.due("store(6, 0, 7) is another", 15, () -> x.store(6, 0, 7));
        c.due("terms() at the end", 16, x::terms);
    }

    private static void termsThatAreEqualAreStillTwo(Checks c) {
        ArrayClaims x = new ArrayClaims();
        x.literal(0, 1, true);
        x.claim();
        c.due("select(5, 0)", 7, () -> x.select(5, 0));
        c.due("select(5, 1), though 0 and 1 are the same", 8, () -> x.select(5, 1));
    }

    private static void wrongTermsAreRefused(Checks c) {
        ArrayClaims x = new ArrayClaims();
        for (int t : NO_TERMS) {
            c.dueThrow("select(" + t + ", 0)", OUT, () -> x.select(t, 0));
            c.dueThrow("select(5, " + t + ")", OUT, () -> x.select(5, t));
            c.dueThrow("select(0, " + t + "), a no array", OUT, () -> x.select(0, t));
            c.dueThrow("select(" + t + ", 5), i no index", OUT, () -> x.select(t, 5));
            c.dueThrow("store(" + t + ", 0, 3)", OUT, () -> x.store(t, 0, 3));
            c.dueThrow("store(5, " + t + ", 3)", OUT, () -> x.store(5, t, 3));
            c.dueThrow("store(5, 0, " + t + ")", OUT, () -> x.store(5, 0, t));
            c.dueThrow("store(3, 3, " + t + ")", OUT, () -> x.store(3, 3, t));
        }
        c.due("terms() after the refusals", 7, x::terms);
    }

    private static void wrongSortsAreRefused(Checks c) {
        ArrayClaims x = new ArrayClaims();
        for (int t = 0; t < 7; t++) {
            int term = t;
            if (x.sort(t) != 2) {
                c.dueThrow("select(" + t + ", 0)", ARGUMENT, () -> x.select(term, 0));
                c.dueThrow("store(" + t + ", 0, 3)", ARGUMENT, () -> x.store(term, 0, 3));
            }
            if (x.sort(t) != 0) {
                c.dueThrow("select(5, " + t + ")", ARGUMENT, () -> x.select(5, term));
                c.dueThrow("store(5, " + t + ", 3)", ARGUMENT, () -> x.store(5, term, 3));
            }
            if (x.sort(t) != 1) {
                c.dueThrow("store(5, 0, " + t + ")", ARGUMENT, () -> x.store(5, 0, term));
            }
        }
        c.due("terms() after the refusals", 7, x::terms);
    }

    private static ArrayClaims fullOfTerms() {
        ArrayClaims x = new ArrayClaims();
        x.select(5, 0);
        int array = 5;
        for (int t = 8; t < 24; t++) {
            array = x.store(array, 1, 4);
        }
        return x;
    }

    private static void atTwentyFourTerms(Checks c) {
        ArrayClaims x = fullOfTerms();
        c.due("full: terms()", 24, x::terms);
        c.due("full: sort(23)", 2, () -> x.sort(23));
        c.due("full: sort(24)", -1, () -> x.sort(24));
        c.due("full: select(5, 0), made before", 7, () -> x.select(5, 0));
        c.due("full: store(5, 1, 4), made before", 8, () -> x.store(5, 1, 4));
        c.due("full: store(22, 1, 4), made before", 23, () -> x.store(22, 1, 4));
        c.dueThrow("full: select(5, 1)", FULL, () -> x.select(5, 1));
        c.dueThrow("full: store(5, 0, 4)", FULL, () -> x.store(5, 0, 4));
        c.dueThrow("full: store(23, 1, 4)", FULL, () -> x.store(23, 1, 4));
        c.dueThrow("full: select(24, 0)", OUT, () -> x.select(24, 0));
        c.dueThrow("full: select(5, 4)", ARGUMENT, () -> x.select(5, 4));
        c.dueThrow("full: store(5, 0, 24)", OUT, () -> x.store(5, 0, 24));
        c.dueThrow("full: store(5, 0, 6)", ARGUMENT, () -> x.store(5, 0, 6));
        c.due("full: terms() after the refusals", 24, x::terms);
        c.due("full: same(9, 23)", ArrayClaims.ALWAYS, () -> x.same(9, 23));
    }

    public static void main(String[] args) {
        Checks c = new Checks();
        aNewObject(c);
        twoObjectsShareNothing(c);
        madeTermsHaveNumbersAndSorts(c);
        termsThatAreEqualAreStillTwo(c);
        wrongTermsAreRefused(c);
        wrongSortsAreRefused(c);
        atTwentyFourTerms(c);
        c.end();
    }
}
