/** The boundaries that the document names for the questions, promises 12 to 17: a method for each. */
public final class AnswerEdgesTest {
    private static final int NEVER = ArrayClaims.NEVER, ALWAYS = ArrayClaims.ALWAYS, MAYBE = ArrayClaims.MAYBE;

    private final Checks c = new Checks();

    private void withoutAnyClaimsTheyCan() {
        c.sentence("Promise 12: Whether all claims can hold (without any they can)");
        ArrayClaims x = new ArrayClaims();
        c.due("can() of a new object", true, x::can);
        Make.draft(x, 0, 0, 0);
        c.due("can() with a draft that is never right", true, x::can);
        x.claim();
        c.due("can() with it as a claim", false, x::can);
        x.keep(0);
        c.due("can() after keep(0)", true, x::can);
        c.due("can() with 24 terms", true, Make.withTerms(24)::can);
    }

    private void allOfEightClaims() {
        c.sentence("Promise 12: Whether all claims can hold");
        for (int count = 1; count <= 8; count++) {
            c.due("can() of " + count, true, Make.withClaims(count)::can);
            if (count > 1) {
                c.due("can() of " + count + ", the last apart", false, Make.comingApart(count)::can);
            }
        }
        for (int bad = 0; bad < 8; bad++) {
            ArrayClaims x = Make.withClaims(bad);
            Make.claim(x, 3, 3, 0, 5, 5, 0, 0, 0, 0);
            Make.claims(x, 7 - bad, 0, 1, 1);
            c.due("can() of eight, claim " + bad + " never holding", false, x::can);
        }
    }

    private void noFirstWhenAllCanHold() {
        c.sentence("Promise 13: NONE when all can hold");
        for (int count = 0; count <= 8; count++) {
            c.due("first() of " + count, ArrayClaims.NONE, Make.withClaims(count)::first);
        }
        ArrayClaims x = Make.comingApart(2);
        x.keep(1);
        c.due("first() after keep(1)", ArrayClaims.NONE, x::first);
    }

    private void theFirstOfMany() {
        c.sentence("Promise 13: The first claim that can't hold together with all before it");
        for (int count = 2; count <= 8; count++) {
            c.due("first() of " + count + ", the last apart", count - 1, Make.comingApart(count)::first);
        }
        for (int bad = 0; bad < 8; bad++) {
            ArrayClaims x = Make.withClaims(bad);
            Make.claim(x, 3, 3, 0);
            Make.claims(x, 7 - bad, 0, 1, 0);
            c.due("first() of eight, claim " + bad + " never holding", bad, x::first);
        }
        ArrayClaims x = new ArrayClaims();
        Make.claim(x, 0, 1, 1);
        Make.claim(x, 1, 2, 1);
        Make.claim(x, 0, 2, 0);
        c.due("first(), which holds with each before it but not with all", 2, x::first);
        Make.claim(x, 5, 5, 0);
        c.due("first(), one behind it being worse", 2, x::first);
    }

    private void withoutOneOfMany() {
        c.sentence("Promise 14: Whether all claims but one can hold");
        ArrayClaims one = new ArrayClaims();
        Make.claim(one, 0, 0, 0);
        c.due("without(0) of one that never holds", true, () -> one.without(0));
        c.due("can()", false, one::can);
        for (int bad = 0; bad < 8; bad++) {
            ArrayClaims x = Make.withClaims(bad);
            Make.claim(x, 0, 1, 0);
            Make.claims(x, 7 - bad, 0, 1, 1);
            for (int k = 0; k < 8; k++) {
                int left = k;
                c.due("without(" + k + ") of eight, claim " + bad + " apart", k == bad, () -> x.without(left));
            }
            c.due("claims()", 8, x::claims);
        }
    }

    private void withoutOneThatIsNone() {
        c.sentence("Promise 14: IndexOutOfBoundsException when there is none such");
        for (int count = 0; count <= 8; count++) {
            ArrayClaims x = Make.withClaims(count);
            for (int n : Make.FAR) {
                c.dueThrow("without(" + n + ") of " + count, Answer.OUT, () -> x.without(n));
            }
            for (int n = count; n <= 9; n++) {
                int claim = n;
                c.dueThrow("without(" + n + ") of " + count, Answer.OUT, () -> x.without(claim));
            }
        }
        ArrayClaims x = Make.withClaims(3);
        x.keep(2);
        c.due("without(1) after keep(2)", true, () -> x.without(1));
        c.dueThrow("without(2) after keep(2)", Answer.OUT, () -> x.without(2));
    }

    private void aTermIsAlwaysItself() {
        c.sentence("Promise 15: Whether two terms are the same in all readings in which all claims hold (ALWAYS)");
        ArrayClaims x = Make.withTerms(24);
        Make.claims(x, 8, 3, 4, 0);
        for (int t = 0; t < 24; t++) {
            int term = t;
            c.due("same(" + t + ", " + t + ")", ALWAYS, () -> x.same(term, term));
        }
    }

    private void eachAnswerOfSame() {
        c.sentence("Promise 15: in all readings .. (ALWAYS), in none of them (NEVER), or in some (MAYBE)");
        int[][] pairs = {{0, 1}, {2, 0}, {3, 4}, {4, 3}, {5, 6}, {6, 5}};
        for (int[] p : pairs) {
            for (int count = 0; count <= 8; count += 4) {
                ArrayClaims x = new ArrayClaims();
                c.due("with no claims: same", MAYBE, () -> x.same(p[0], p[1]));
                Make.claims(x, count, p[1], p[0], 1, p[1], p[0], 1);
                c.due(count + " claims that they are: same", count == 0 ? MAYBE : ALWAYS, () -> x.same(p[0], p[1]));
                x.keep(0);
                Make.claims(x, count, p[1], p[0], 0);
                c.due(count + " claims that they are not: same", count == 0 ? MAYBE : NEVER,
                        () -> x.same(p[0], p[1]));
                x.keep(0);
                Make.claims(x, count, p[0], p[1], 0, p[1], p[0], 1);
                c.due(count + " claims that say nothing: same", MAYBE, () -> x.same(p[0], p[1]));
            }
        }
    }

    private void sameOfNoTerm() {
        c.sentence("Promise 15: IndexOutOfBoundsException when there is no such term");
        for (int count : new int[] {7, 8, 11, 23, 24}) {
            ArrayClaims x = Make.withTerms(count);
            String told = "with " + count + " terms: same";
            c.dueThrow(told + "(" + count + ", 0)", Answer.OUT, () -> x.same(count, 0));
            c.dueThrow(told + "(3, " + count + ")", Answer.OUT, () -> x.same(3, count));
            c.dueThrow(told + "(" + count + ", " + count + ")", Answer.OUT, () -> x.same(count, count));
            for (int t : Make.FAR) {
                c.dueThrow(told + "(" + t + ", 0)", Answer.OUT, () -> x.same(t, 0));
                c.dueThrow(told + "(5, " + t + ")", Answer.OUT, () -> x.same(5, t));
                c.dueThrow(told + "(" + t + ", " + t + ")", Answer.OUT, () -> x.same(t, t));
            }
        }
    }

    private void sameOfTwoSorts() {
        c.sentence("Promise 15: IllegalArgumentException when they are of different sorts");
        ArrayClaims x = Make.withTerms(12);
        for (int t = 0; t < 12; t++) {
            for (int u = 0; u < 12; u++) {
                int left = t;
                int right = u;
                if (x.sort(t) != x.sort(u)) {
                    c.dueThrow("same(" + t + ", " + u + ")", Answer.ARGUMENT, () -> x.same(left, right));
                }
            }
        }
    }

    private void sameWhenTheClaimsCannotHold() {
        c.sentence("Promise 15: IllegalStateException when the claims can't hold");
        for (int count = 2; count <= 8; count++) {
            ArrayClaims x = Make.comingApart(count);
            for (int t = 0; t < 7; t++) {
                int term = t;
                c.dueThrow(count + " claims: same(" + t + ", " + t + ")", Answer.STATE, () -> x.same(term, term));
            }
            c.dueThrow(count + " claims: same(3, 4)", Answer.STATE, () -> x.same(3, 4));
            x.keep(x.claims() - 1);
            c.due("same(3, 4) without the last claim", MAYBE, () -> x.same(3, 4));
        }
    }

    private void theDraftStays() {
        c.sentence("Promise 16: the draft (which stays)");
        for (int size = 1; size <= 3; size++) {
            ArrayClaims x = Make.withClaims(7);
            for (int k = 0; k < size; k++) {
                Make.draft(x, 0, 1, 1);
            }
            c.due("follows() of " + size, true, x::follows);
            c.due("draft()", size, x::draft);
            c.due("claims(), as it is no claim yet", 7, x::claims);
            c.due("follows() again", true, x::follows);
            x.keep(0);
            c.due("follows() after keep(0)", false, x::follows);
            c.due("draft()", size, x::draft);
            c.due("claims()", 0, x::claims);
            c.due("claim()", 0, x::claim);
            c.due("what it says", ALWAYS, () -> x.same(0, 1));
        }
    }

    private void asAClaim() {
        c.sentence("Promise 16: Whether the draft .. as a claim, holds in all readings in which all claims hold");
        ArrayClaims x = new ArrayClaims();
        Make.claim(x, 0, 1, 1, 1, 2, 1, 3, 4, 1);
        Make.draft(x, 0, 1, 1);
        c.due("one of the claim's three", false, x::follows);
        Make.draft(x, 3, 4, 1);
        c.due("two of the claim's three", false, x::follows);
        Make.draft(x, 2, 1, 1);
        c.due("all of the claim's three", true, x::follows);
        x.clear();
        x.keep(0);
        Make.draft(x, 3, 4, 1, 3, 4, 0);
        c.due("one of the two holds, with no claims", true, x::follows);
        x.clear();
        Make.draft(x, 3, 4, 1);
        c.due("what may hold, with no claims", false, x::follows);
    }

    private void followsFromEightClaims() {
        c.sentence("Promise 16: in all readings in which all claims hold");
        for (int size = 1; size <= 3; size++) {
            ArrayClaims x = Make.withClaims(7);
            Make.claim(x, 1, 2, 1);
            for (int k = 1; k < size; k++) {
                Make.draft(x, 3, 4, 1);
            }
            Make.draft(x, 0, 2, 1);
            c.due("follows() of " + size + " from the first and last of eight", true, x::follows);
            x.keep(7);
            c.due("follows() of " + size + " without the last", false, x::follows);
        }
    }

    private void soIfThereAreNone() {
        c.sentence("Promise 16: (so if there are none)");
        for (int count = 2; count <= 8; count++) {
            ArrayClaims x = Make.comingApart(count);
            Make.draft(x, 3, 3, 0);
            c.due("follows() of what is never right", true, x::follows);
            Make.draft(x, 5, 6, 1, 5, 5, 0);
            c.due("follows() of three literals", true, x::follows);
            x.keep(count - 1);
            c.due("follows() when there are some", false, x::follows);
        }
    }

    private void followsWithoutLiterals() {
        c.sentence("Promise 16: IllegalStateException when it has no literals");
        c.dueThrow("of a new object", Answer.STATE, new ArrayClaims()::follows);
        for (int count = 2; count <= 8; count++) {
            c.dueThrow("follows() of " + count + " that hold", Answer.STATE, Make.withClaims(count)::follows);
            c.dueThrow("follows() of " + count + " that can't", Answer.STATE, Make.comingApart(count)::follows);
        }
        ArrayClaims x = new ArrayClaims();
        Make.draft(x, 0, 0, 1);
        x.clear();
        c.dueThrow("follows() after clear()", Answer.STATE, x::follows);
    }

    private void apart(String told, int fewest, int most, int... unitClaims) {
        ArrayClaims x = new ArrayClaims();
        for (int k = 0; k < unitClaims.length; k += 3) {
            Make.claim(x, unitClaims[k], unitClaims[k + 1], unitClaims[k + 2]);
        }
        c.due(told + ": apart(true)", fewest, () -> x.apart(true));
        c.due(told + ": apart(false)", most, () -> x.apart(false));
    }

    private void atMostAndAtLeast() {
        c.sentence("Promise 17: How many of the three names .. can be different ones at most .. or how few at least");
        apart("no claims", 1, 3);
        apart("0 is 1", 1, 2, 0, 1, 1);
        apart("0 is not 1", 2, 3, 0, 1, 0);
        apart("0 is not 2", 2, 3, 0, 2, 0);
        apart("1 is not 2", 2, 3, 1, 2, 0);
        apart("0 is 2, not 1", 2, 2, 0, 2, 1, 0, 1, 0);
        apart("1 is 2, not 0", 2, 2, 1, 2, 1, 0, 1, 0);
        apart("all the same", 1, 1, 0, 1, 1, 1, 2, 1);
        apart("all different", 3, 3, 0, 1, 0, 1, 2, 0, 0, 2, 0);
        ArrayClaims x = new ArrayClaims();
        Make.claim(x, 0, 1, 1, 0, 2, 0);
        Make.claim(x, 0, 1, 0, 0, 2, 1);
        c.due("1 and 2 are both 0 or neither: apart(true)", 1, () -> x.apart(true));
        c.due("1 and 2 are both 0 or neither: apart(false)", 3, () -> x.apart(false));
        Make.claims(x, 6, 1, 2, 0);
        c.due("and 1 is not 2, eight claims: apart(true)", 3, () -> x.apart(true));
    }

    private void apartWhenTheClaimsCannotHold() {
        c.sentence("Promise 17: IllegalStateException when the claims can't hold");
        for (int count = 2; count <= 8; count++) {
            ArrayClaims x = Make.comingApart(count);
            c.dueThrow(count + " claims: apart(true)", Answer.STATE, () -> x.apart(true));
            c.dueThrow(count + " claims: apart(false)", Answer.STATE, () -> x.apart(false));
            x.keep(count - 1);
            c.due("apart(true) without the last", 1, () -> x.apart(true));
            c.due("apart(false) without the last", 2, () -> x.apart(false));
        }
        ArrayClaims x = new ArrayClaims();
        Make.claim(x, 3, 3, 0);
        c.dueThrow("a claim about elements: apart(true)", Answer.STATE, () -> x.apart(true));
        c.dueThrow("a claim about elements: apart(false)", Answer.STATE, () -> x.apart(false));
    }

    private Checks run() {
        withoutAnyClaimsTheyCan();
        allOfEightClaims();
        noFirstWhenAllCanHold();
        theFirstOfMany();
        withoutOneOfMany();
        withoutOneThatIsNone();
        aTermIsAlwaysItself();
        eachAnswerOfSame();
        sameOfNoTerm();
        sameOfTwoSorts();
        sameWhenTheClaimsCannotHold();
        theDraftStays();
        asAClaim();
        followsFromEightClaims();
        soIfThereAreNone();
        followsWithoutLiterals();
        atMostAndAtLeast();
        apartWhenTheClaimsCannotHold();
        return c;
    }

    public static void main(String[] args) {
        new AnswerEdgesTest().run().end();
    }
}
