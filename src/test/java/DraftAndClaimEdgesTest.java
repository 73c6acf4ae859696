/** The boundaries that the document names for the draft and the claims, promises 6 to 11: a method for each. */
public final class DraftAndClaimEdgesTest {
    private final Checks c = new Checks();

    private void aClaimHasOneToThreeLiterals() {
        c.sentence("Terms: A CLAIM has one to three literals");
        ArrayClaims x = new ArrayClaims();
        c.dueThrow("a claim of none", Answer.STATE, x::claim);
        Make.draft(x, 0, 1, 1);
        c.due("a claim of one", 0, x::claim);
        Make.draft(x, 0, 1, 0, 3, 4, 1);
        c.due("a claim of two", 1, x::claim);
        Make.draft(x, 0, 1, 0, 3, 4, 0, 5, 6, 1);
        c.due("a claim of three", 2, x::claim);
        c.due("what the second says", ArrayClaims.ALWAYS, () -> x.same(3, 4));
        c.due("what the third says", ArrayClaims.ALWAYS, () -> x.same(5, 6));
    }

    private void eightClaimsAtMost() {
        c.sentence("Terms: Claims are numbered 0, 1, .. , 8 at most in all");
        ArrayClaims x = new ArrayClaims();
        for (int k = 0; k < 8; k++) {
            Make.draft(x, 3, 4, 1, 0, 1, 1, 5, 6, 1);
            c.due("claim()", k, x::claim);
        }
        Make.draft(x, 3, 4, 1);
        c.dueThrow("a ninth", Answer.FULL, x::claim);
        c.due("claims()", 8, x::claims);
    }

    private void aDraftOfThreeAtFirstNone() {
        c.sentence("Terms: There is a DRAFT of at most three literals, at first none");
        ArrayClaims x = new ArrayClaims();
        c.due("draft()", 0, x::draft);
        for (int k = 1; k <= 3; k++) {
            c.due("literal " + k, k, () -> x.literal(3, 4, true));
        }
        c.dueThrow("a fourth", Answer.STATE, () -> x.literal(3, 4, true));
        c.due("draft() after it", 3, x::draft);
    }

    private void aLiteralAboutOneTermTwice() {
        c.sentence("Promise 6: A literal more in the draft (about one term twice .. too): how many it has");
        for (int t = 0; t < 24; t++) {
            ArrayClaims x = Make.withTerms(24);
            int term = t;
            c.due("literal(" + t + ", " + t + ", true)", 1, () -> x.literal(term, term, true));
            c.due("literal(" + t + ", " + t + ", false)", 2, () -> x.literal(term, term, false));
            c.due("draft()", 2, x::draft);
        }
        ArrayClaims never = new ArrayClaims();
        Make.claim(never, 5, 5, 0);
        c.due("can() of a claim that one term is not itself", false, never::can);
        ArrayClaims always = new ArrayClaims();
        Make.claim(always, 5, 5, 1);
        c.due("can() of a claim that one term is itself", true, always::can);
    }

    private void aLiteralThatTheDraftHas() {
        c.sentence("Promise 6: A literal more in the draft (.. or one that it has, too): how many it has");
        ArrayClaims x = new ArrayClaims();
        c.due("literal(0, 1, true)", 1, () -> x.literal(0, 1, true));
        c.due("the same again", 2, () -> x.literal(0, 1, true));
        c.due("its opposite", 3, () -> x.literal(0, 1, false));
        c.due("draft()", 3, x::draft);
        ArrayClaims thrice = new ArrayClaims();
        Make.draft(thrice, 3, 4, 0, 3, 4, 0);
        c.due("the same a third time", 3, () -> thrice.literal(3, 4, false));
        c.due("claim()", 0, thrice::claim);
        c.due("what it says", ArrayClaims.NEVER, () -> thrice.same(3, 4));
    }

    private void aLiteralOfNoTerm() {
        c.sentence("Promise 6: IndexOutOfBoundsException when there is no such term");
        for (int count : new int[] {7, 8, 11, 23, 24}) {
            ArrayClaims x = Make.withTerms(count);
            String told = "with " + count + " terms: literal";
            for (int t : new int[] {0, 3, 5}) {
                c.dueThrow(told + "(" + t + ", " + count + ", true)", Answer.OUT, () -> x.literal(t, count, true));
                c.dueThrow(told + "(" + count + ", " + t + ", true)", Answer.OUT, () -> x.literal(count, t, true));
            }
            for (int t : Make.FAR) {
                c.dueThrow(told + "(" + t + ", 0, true)", Answer.OUT, () -> x.literal(t, 0, true));
                c.dueThrow(told + "(5, " + t + ", false)", Answer.OUT, () -> x.literal(5, t, false));
                c.dueThrow(told + "(" + t + ", " + t + ", true)", Answer.OUT, () -> x.literal(t, t, true));
            }
            c.due("draft()", 0, x::draft);
        }
    }

    private void aLiteralOfTwoSorts() {
        c.sentence("Promise 6: IllegalArgumentException when the two are of different sorts");
        ArrayClaims x = Make.withTerms(12);
        int[] two = {0, 3, 0, 5, 3, 0, 3, 5, 5, 0, 5, 3, 7, 2, 2, 11, 11, 9, 9, 11, 7, 6, 4, 10};
        for (int k = 0; k < two.length; k += 2) {
            int t = two[k];
            int u = two[k + 1];
            c.dueThrow("literal(" + t + ", " + u + ", true)", Answer.ARGUMENT, () -> x.literal(t, u, true));
            c.dueThrow("literal(" + t + ", " + u + ", false)", Answer.ARGUMENT, () -> x.literal(t, u, false));
        }
        c.due("draft()", 0, x::draft);
        c.due("literal(3, 9, true), of one sort", 1, () -> x.literal(3, 9, true));
        c.due("literal(11, 6, true), of one sort", 2, () -> x.literal(11, 6, true));
    }

    private void aFourthLiteral() {
        c.sentence("Promise 6: IllegalStateException when it has three");
        ArrayClaims x = new ArrayClaims();
        Make.draft(x, 0, 0, 0, 3, 3, 0, 5, 5, 0);
        c.dueThrow("literal(0, 1, true)", Answer.STATE, () -> x.literal(0, 1, true));
        c.dueThrow("literal(5, 5, false), which it has", Answer.STATE, () -> x.literal(5, 5, false));
        c.dueThrow("literal(6, 6, true), about one term twice", Answer.STATE, () -> x.literal(6, 6, true));
        c.due("draft()", 3, x::draft);
        c.due("claim()", 0, x::claim);
        c.due("can(), none of the fourth ones being in it", false, x::can);
        c.due("literal(0, 1, true) in the next draft", 1, () -> x.literal(0, 1, true));
    }

    private void howManyTheDraftHas() {
        c.sentence("Promise 7: How many literals the draft has");
        ArrayClaims x = new ArrayClaims();
        for (int k = 0; k <= 3; k++) {
            c.due("draft() with " + k, k, x::draft);
            c.due("draft() with " + k + " again", k, x::draft);
            if (k < 3) {
                Make.draft(x, 3, 4, 1);
            }
        }
        x.claim();
        c.due("draft() after claim()", 0, x::draft);
    }

    private void clearingAnyDraft() {
        c.sentence("Promise 8: The draft has no literals any more");
        for (int size = 0; size <= 3; size++) {
            ArrayClaims x = Make.withTerms(9);
            Make.claim(x, 3, 4, 0);
            for (int k = 0; k < size; k++) {
                Make.draft(x, 0, 1, 1);
            }
            x.clear();
            c.due("draft() after clear() of " + size, 0, x::draft);
            c.dueThrow("claim() after clear() of " + size, Answer.STATE, x::claim);
            c.dueThrow("follows() after clear() of " + size, Answer.STATE, x::follows);
            c.due("claims() stays", 1, x::claims);
            c.due("terms() stays", 9, x::terms);
            c.due("what the claim says stays", ArrayClaims.NEVER, () -> x.same(3, 4));
            c.due("literal(0, 2, true) after clear() of " + size, 1, () -> x.literal(0, 2, true));
            c.due("claim() of that alone", 1, x::claim);
            c.due("what it says", ArrayClaims.ALWAYS, () -> x.same(0, 2));
        }
    }

    private void aClaimEmptiesTheDraft() {
        c.sentence("Promise 9: The draft's literals are a claim more, and the draft has none any more: its number");
        for (int size = 1; size <= 3; size++) {
            ArrayClaims x = new ArrayClaims();
            for (int number = 0; number < 8; number++) {
                for (int k = 0; k < size; k++) {
                    Make.draft(x, 3, 4, 1);
                }
                c.due("claim() of " + size, number, x::claim);
                c.due("draft() after it", 0, x::draft);
                c.due("claims() after it", number + 1, x::claims);
            }
        }
    }

    private void aClaimIsTheDraftsLiterals() {
        c.sentence("Promise 9: The draft's literals are a claim more");
        ArrayClaims x = new ArrayClaims();
        Make.claim(x, 3, 4, 1, 0, 1, 1, 1, 2, 1);
        Make.claim(x, 3, 4, 0);
        c.due("one of the other two is left", ArrayClaims.MAYBE, () -> x.same(0, 1));
        Make.claim(x, 0, 1, 0);
        c.due("the last is left", ArrayClaims.ALWAYS, () -> x.same(1, 2));
        Make.claim(x, 1, 2, 0);
        c.due("none is left", false, x::can);
    }

    private void aClaimWithoutADraft() {
        c.sentence("Promise 9: IllegalStateException when the draft has none");
        ArrayClaims x = new ArrayClaims();
        c.dueThrow("claim() of a new object", Answer.STATE, x::claim);
        Make.draft(x, 3, 4, 1);
        x.clear();
        c.dueThrow("claim() after clear()", Answer.STATE, x::claim);
        c.due("claims()", 0, x::claims);
        Make.claim(x, 3, 4, 1);
        c.dueThrow("claim() after claim()", Answer.STATE, x::claim);
        x.keep(0);
        c.dueThrow("claim() after keep(0)", Answer.STATE, x::claim);
        c.due("claims()", 0, x::claims);
    }

    private void aNinthClaim() {
        c.sentence("Promise 9: UnsupportedOperationException when there are eight claims");
        ArrayClaims x = Make.withClaims(7);
        Make.draft(x, 1, 2, 1);
        c.due("an eighth", 7, x::claim);
        Make.draft(x, 3, 4, 1, 5, 6, 1);
        c.dueThrow("a ninth", Answer.FULL, x::claim);
        c.dueThrow("a ninth once more", Answer.FULL, x::claim);
        c.due("claims()", 8, x::claims);
        c.due("draft(), which stays", 2, x::draft);
        x.keep(7);
        c.due("an eighth after keep(7)", 7, x::claim);
        c.due("what it says: not what the one dropped said", ArrayClaims.MAYBE, () -> x.same(1, 2));
        x.keep(0);
        Make.draft(x, 3, 4, 0);
        c.due("a first after keep(0)", 0, x::claim);
    }

    private void onlyTheFirstClaimsStay() {
        c.sentence("Promise 10: Only the first n claims (perhaps all) stay");
        for (int n = 0; n <= 8; n++) {
            int stay = n;
            ArrayClaims x = Make.withTerms(10);
            int[] chain = {0, 1, 1, 2, 3, 4, 4, 7, 7, 8, 8, 9, 5, 6, 0, 0};
            for (int k = 0; k < 8; k++) {
                Make.claim(x, chain[2 * k], chain[2 * k + 1], 1);
            }
            c.due("keep(" + n + ") of eight", true, () -> x.keep(stay));
            c.due("claims() after it", n, x::claims);
            c.due("claim 0 stays or goes", n > 0 ? ArrayClaims.ALWAYS : ArrayClaims.MAYBE, () -> x.same(0, 1));
            c.due("claim 1 stays or goes", n > 1 ? ArrayClaims.ALWAYS : ArrayClaims.MAYBE, () -> x.same(1, 2));
            c.due("claim 2 stays or goes", n > 2 ? ArrayClaims.ALWAYS : ArrayClaims.MAYBE, () -> x.same(3, 4));
            c.due("claim 3 stays or goes", n > 3 ? ArrayClaims.ALWAYS : ArrayClaims.MAYBE, () -> x.same(4, 7));
            c.due("claim 6 stays or goes", n > 6 ? ArrayClaims.ALWAYS : ArrayClaims.MAYBE, () -> x.same(5, 6));
            Make.draft(x, 3, 4, 0);
            if (n < 8) {
                c.due("the next claim()", n, x::claim);
            } else {
                c.dueThrow("the next claim()", Answer.FULL, x::claim);
            }
        }
    }

    private void keepingAllOfAny() {
        c.sentence("Promise 10: (perhaps all)");
        for (int count = 0; count <= 8; count++) {
            int all = count;
            ArrayClaims x = Make.withClaims(count);
            c.due("keep(" + count + ") of as many", true, () -> x.keep(all));
            c.due("claims() after it", count, x::claims);
        }
    }

    private void termsAndDraftStay() {
        c.sentence("Promise 10: terms and the draft stay");
        for (int size = 0; size <= 3; size++) {
            ArrayClaims x = Make.withTerms(24);
            Make.claims(x, 8, 0, 1, 1);
            for (int k = 0; k < size; k++) {
                Make.draft(x, 0, 2, 0);
            }
            x.keep(0);
            c.due("terms()", 24, x::terms);
            c.due("sort(23)", 2, () -> x.sort(23));
            c.due("draft()", size, x::draft);
            if (size > 0) {
                c.due("claim() of the draft", 0, x::claim);
                c.due("what it says", ArrayClaims.NEVER, () -> x.same(0, 2));
            }
        }
    }

    private void keepingANegativeNumber() {
        c.sentence("Promise 10: False, changing nothing, when n is negative");
        for (int count = 0; count <= 8; count++) {
            ArrayClaims x = Make.withClaims(count);
            Make.draft(x, 3, 4, 1);
            for (int n : new int[] {-1, -2, -8, -count, ~count, Integer.MIN_VALUE}) {
                if (n < 0) {
                    c.due("keep(" + n + ") of " + count, false, () -> x.keep(n));
                    c.due("claims()", count, x::claims);
                }
            }
            c.due("draft()", 1, x::draft);
            c.due("same(0, 1)", count > 0 ? ArrayClaims.ALWAYS : ArrayClaims.MAYBE, () -> x.same(0, 1));
        }
    }

    private void keepingMoreThanThereAre() {
        c.sentence("Promise 10: False, changing nothing, when .. there are not so many");
        for (int count = 0; count <= 8; count++) {
            ArrayClaims x = Make.withClaims(count);
            Make.draft(x, 3, 4, 1);
            for (int n : new int[] {count + 1, count + 2, 9, 24, 1 << 30, Integer.MAX_VALUE}) {
                c.due("keep(" + n + ") of " + count, false, () -> x.keep(n));
                c.due("claims()", count, x::claims);
            }
            c.due("draft()", 1, x::draft);
        }
        ArrayClaims x = Make.comingApart(2);
        x.keep(1);
        c.due("keep(2), as one was dropped", false, () -> x.keep(2));
        c.due("can(), as the dropped one does not come back", true, x::can);
        c.due("claims()", 1, x::claims);
    }

    private void howManyClaimsThereAre() {
        c.sentence("Promise 11: How many claims there are");
        ArrayClaims x = new ArrayClaims();
        for (int k = 0; k <= 8; k++) {
            c.due("claims() with " + k, k, x::claims);
            Make.draft(x, 3, 4, 1);
            c.due("claims() with " + k + " and a draft", k, x::claims);
            if (k < 8) {
                x.claim();
            }
        }
        for (int k = 8; k >= 0; k--) {
            x.keep(k);
            c.due("claims() after keep(" + k + ")", k, x::claims);
        }
    }

    private Checks run() {
        aClaimHasOneToThreeLiterals();
        eightClaimsAtMost();
        aDraftOfThreeAtFirstNone();
        aLiteralAboutOneTermTwice();
        aLiteralThatTheDraftHas();
        aLiteralOfNoTerm();
        aLiteralOfTwoSorts();
        aFourthLiteral();
        howManyTheDraftHas();
        clearingAnyDraft();
        aClaimEmptiesTheDraft();
        aClaimIsTheDraftsLiterals();
        aClaimWithoutADraft();
        aNinthClaim();
        onlyTheFirstClaimsStay();
        keepingAllOfAny();
        termsAndDraftStay();
        keepingANegativeNumber();
        keepingMoreThanThereAre();
        howManyClaimsThereAre();
        return c;
    }

    public static void main(String[] args) {
        new DraftAndClaimEdgesTest().run().end();
    }
}
