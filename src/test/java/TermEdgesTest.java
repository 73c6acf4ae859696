/** The boundaries that the document names under "Terms" for terms, and in promises 1 to 5: a method for each. */
public final class TermEdgesTest {
    private final Checks c = new Checks();

    private void twentyFourTermsAtMost() {
        c.sentence("Terms: TERMS are numbered 0, 1, .. , 24 of them at most");
        ArrayClaims x = new ArrayClaims();
        int array = 5;
        for (int t = 7; t < 24; t++) {
            int before = array;
            c.due("store " + t, t, () -> x.store(before, 0, 3));
            array = t;
        }
        c.due("terms()", 24, x::terms);
        c.dueThrow("a 25th by store", Answer.FULL, () -> x.store(23, 0, 3));
        c.dueThrow("a 25th by select", Answer.FULL, () -> x.select(23, 0));
        c.due("terms() after it", 24, x::terms);
    }

    private void atFirstThereAreSeven() {
        c.sentence("Terms: At first there are seven: 0, 1, 2 .. of indices, 3 and 4 of elements, 5 and 6 of arrays");
        ArrayClaims x = new ArrayClaims();
        int[] sorts = {0, 0, 0, 1, 1, 2, 2};
        for (int t = 0; t < 7; t++) {
            int term = t;
            c.due("sort(" + t + ")", sorts[t], () -> x.sort(term));
        }
        c.due("sort(7)", -1, () -> x.sort(7));
        c.due("terms()", 7, x::terms);
        c.due("the first one made", 7, () -> x.select(6, 2));
    }

    private void arrayAndElementAreMadeBefore() {
        c.sentence("Terms: Array and element are terms here, made before");
        ArrayClaims x = new ArrayClaims();
        c.dueThrow("store(7, 0, 3), 7 not yet made", Answer.OUT, () -> x.store(7, 0, 3));
        c.dueThrow("store(5, 0, 7), 7 not yet made", Answer.OUT, () -> x.store(5, 0, 7));
        c.dueThrow("select(7, 0), 7 not yet made", Answer.OUT, () -> x.select(7, 0));
        c.due("store(5, 0, 3)", 7, () -> x.store(5, 0, 3));
        c.due("select(7, 0), 7 made just now", 8, () -> x.select(7, 0));
        c.due("store(7, 0, 8), both made just now", 9, () -> x.store(7, 0, 8));
        c.dueThrow("store(10, 0, 3), 10 not yet made", Answer.OUT, () -> x.store(10, 0, 3));
        c.dueThrow("store(5, 0, 10), 10 not yet made", Answer.OUT, () -> x.store(5, 0, 10));
    }

    private void aNewObjectHasNoClaims() {
        c.sentence("Promise 1: no claims");
        ArrayClaims x = new ArrayClaims();
        c.due("claims()", 0, x::claims);
        c.due("can()", true, x::can);
        c.due("first()", -1, x::first);
        c.due("keep(1)", false, () -> x.keep(1));
        c.dueThrow("without(0)", Answer.OUT, () -> x.without(0));
        c.due("same(0, 1)", ArrayClaims.MAYBE, () -> x.same(0, 1));
        c.due("literal(0, 1, true)", 1, () -> x.literal(0, 1, true));
        c.due("the first claim()", 0, x::claim);
    }

    private void aNewObjectHasAnEmptyDraft() {
        c.sentence("Promise 1: an empty draft");
        ArrayClaims x = new ArrayClaims();
        c.due("draft()", 0, x::draft);
        c.dueThrow("claim()", Answer.STATE, x::claim);
        c.dueThrow("follows()", Answer.STATE, x::follows);
        c.due("the first literal", 1, () -> x.literal(3, 4, false));
    }

    private void aNewObjectIsNewThoughOthersAreFull() {
        c.sentence("Promise 1: The seven names; no claims, an empty draft (with other objects full)");
        ArrayClaims full = Make.withTerms(24);
        Make.claims(full, 8, 0, 0, 0);
        Make.draft(full, 3, 4, 1, 3, 4, 1, 3, 4, 1);
        ArrayClaims x = new ArrayClaims();
        c.due("terms()", 7, x::terms);
        c.due("claims()", 0, x::claims);
        c.due("draft()", 0, x::draft);
        c.due("can()", true, x::can);
        x.clear();
        x.keep(0);
        c.due("the full one: terms()", 24, full::terms);
        c.due("the full one: claims()", 8, full::claims);
        c.due("the full one: draft()", 3, full::draft);
        c.due("the full one: can()", false, full::can);
    }

    private void aSelectMadeBeforeHasItsNumber() {
        c.sentence("Promise 2: its number, which is that of before, if the same one was made");
        ArrayClaims x = new ArrayClaims();
        int number = 7;
        for (int a = 5; a <= 6; a++) {
            for (int i = 0; i < 3; i++) {
                int array = a;
                int index = i;
                c.due("select(" + a + ", " + i + ")", number, () -> x.select(array, index));
                c.due("select(" + a + ", " + i + ") at once again", number, () -> x.select(array, index));
                number++;
            }
        }
        Make.claim(x, 0, 1, 1);
        Make.claim(x, 5, 6, 1);
        Make.draft(x, 7, 8, 1);
        c.due("select(5, 1), though the claims say it is 7", 8, () -> x.select(5, 1));
        c.due("select(6, 0), though the claims say it is 7", 10, () -> x.select(6, 0));
        x.keep(0);
        x.clear();
        c.due("select(5, 0) after keep(0) and clear()", 7, () -> x.select(5, 0));
        c.due("select(6, 2) after keep(0) and clear()", 12, () -> x.select(6, 2));
        c.due("terms()", 13, x::terms);
    }

    private void aSelectMadeBeforeHasItsNumberWhenFull() {
        c.sentence("Promise 2: also with 24 terms");
        ArrayClaims x = Make.withTerms(22);
        c.due("select(21, 0), a 23rd", 22, () -> x.select(21, 0));
        c.due("select(21, 1), a 24th", 23, () -> x.select(21, 1));
        c.due("select(5, 0) again", 7, () -> x.select(5, 0));
        c.due("select(5, 2) again", 9, () -> x.select(5, 2));
        c.due("select(21, 0) again", 22, () -> x.select(21, 0));
        c.due("select(21, 1) again", 23, () -> x.select(21, 1));
        c.due("terms()", 24, x::terms);
    }

    private void aSelectOfNoTerm() {
        c.sentence("Promise 2: IndexOutOfBoundsException when there is no such term");
        for (int count : new int[] {7, 8, 11, 23, 24}) {
            ArrayClaims x = Make.withTerms(count);
            String told = "with " + count + " terms: select";
            c.dueThrow(told + "(" + count + ", 0)", Answer.OUT, () -> x.select(count, 0));
            c.dueThrow(told + "(5, " + count + ")", Answer.OUT, () -> x.select(5, count));
            for (int t : Make.FAR) {
                c.dueThrow(told + "(" + t + ", 0)", Answer.OUT, () -> x.select(t, 0));
                c.dueThrow(told + "(5, " + t + ")", Answer.OUT, () -> x.select(5, t));
                c.dueThrow(told + "(" + t + ", " + t + ")", Answer.OUT, () -> x.select(t, t));
            }
            c.due("terms()", count, x::terms);
        }
    }

    private void aSelectOfNoArray() {
        c.sentence("Promise 2: IllegalArgumentException when a is no array");
        ArrayClaims x = Make.withTerms(12);
        for (int t : new int[] {0, 1, 2, 3, 4, 7, 8, 9}) {
            c.dueThrow("select(" + t + ", 0)", Answer.ARGUMENT, () -> x.select(t, 0));
        }
        c.due("select(11, 0), an array", 12, () -> x.select(11, 0));
    }

    private void aSelectAtNoIndex() {
        c.sentence("Promise 2: IllegalArgumentException when .. i no index");
        ArrayClaims x = Make.withTerms(12);
        for (int t = 3; t < 12; t++) {
            int term = t;
            c.dueThrow("select(5, " + t + ")", Answer.ARGUMENT, () -> x.select(5, term));
        }
        c.due("select(6, 2), an index", 12, () -> x.select(6, 2));
    }

    private void aSelectTooMany() {
        c.sentence("Promise 2: UnsupportedOperationException when there are 24 terms");
        ArrayClaims x = Make.withTerms(23);
        c.due("select(6, 0), a 24th", 23, () -> x.select(6, 0));
        c.dueThrow("select(6, 1), a 25th", Answer.FULL, () -> x.select(6, 1));
        c.dueThrow("select(22, 2), a 25th", Answer.FULL, () -> x.select(22, 2));
        c.due("terms()", 24, x::terms);
    }

    private void aStoreMadeBeforeHasItsNumber() {
        c.sentence("Promise 3: The STORE of e in a at i, likewise (its number, which is that of before)");
        ArrayClaims x = new ArrayClaims();
        int number = 7;
        for (int e = 3; e <= 4; e++) {
            for (int i = 0; i < 3; i++) {
                int element = e;
                int index = i;
                c.due("store(5, " + i + ", " + e + ")", number, () -> x.store(5, index, element));
                c.due("store(5, " + i + ", " + e + ") at once again", number, () -> x.store(5, index, element));
                number++;
            }
        }
        c.due("store(6, 0, 3)", 13, () -> x.store(6, 0, 3));
        Make.claim(x, 3, 4, 1);
        Make.claim(x, 5, 6, 1);
        c.due("store(5, 0, 4), though the claims say it is 7", 10, () -> x.store(5, 0, 4));
        c.due("store(6, 0, 3), though the claims say it is 7", 13, () -> x.store(6, 0, 3));
        x.keep(0);
        c.due("store(5, 2, 4) after keep(0)", 12, () -> x.store(5, 2, 4));
        c.due("a select of the same array and index", 14, () -> x.select(5, 0));
        c.due("terms()", 15, x::terms);
    }

    private void aStoreMadeBeforeHasItsNumberWhenFull() {
        c.sentence("Promise 3: likewise (also with 24 terms)");
        ArrayClaims x = Make.withTerms(24);
        c.due("store(5, 1, 3) again", 10, () -> x.store(5, 1, 3));
        c.due("store(10, 2, 3) again", 11, () -> x.store(10, 2, 3));
        c.due("store(22, 2, 3) again", 23, () -> x.store(22, 2, 3));
        c.due("terms()", 24, x::terms);
    }

    private void aStoreOfNoTerm() {
        c.sentence("Promise 3: IndexOutOfBoundsException when there is no such term");
        for (int count : new int[] {7, 8, 11, 23, 24}) {
            ArrayClaims x = Make.withTerms(count);
            String told = "with " + count + " terms: store";
            c.dueThrow(told + "(" + count + ", 0, 4)", Answer.OUT, () -> x.store(count, 0, 4));
            c.dueThrow(told + "(5, " + count + ", 4)", Answer.OUT, () -> x.store(5, count, 4));
            c.dueThrow(told + "(5, 0, " + count + ")", Answer.OUT, () -> x.store(5, 0, count));
            for (int t : Make.FAR) {
                c.dueThrow(told + "(" + t + ", 0, 4)", Answer.OUT, () -> x.store(t, 0, 4));
                c.dueThrow(told + "(5, " + t + ", 4)", Answer.OUT, () -> x.store(5, t, 4));
                c.dueThrow(told + "(5, 0, " + t + ")", Answer.OUT, () -> x.store(5, 0, t));
            }
            c.due("terms()", count, x::terms);
        }
    }

    private void aStoreInNoArray() {
        c.sentence("Promise 3: IllegalArgumentException when a is no array");
        ArrayClaims x = Make.withTerms(12);
        for (int t : new int[] {0, 1, 2, 3, 4, 7, 8, 9}) {
            c.dueThrow("store(" + t + ", 0, 4)", Answer.ARGUMENT, () -> x.store(t, 0, 4));
        }
        c.due("store(11, 0, 4), an array", 12, () -> x.store(11, 0, 4));
    }

    private void aStoreAtNoIndex() {
        c.sentence("Promise 3: IllegalArgumentException when .. i no index");
        ArrayClaims x = Make.withTerms(12);
        for (int t = 3; t < 12; t++) {
            int term = t;
            c.dueThrow("store(5, " + t + ", 4)", Answer.ARGUMENT, () -> x.store(5, term, 4));
        }
        c.due("store(6, 2, 4), an index", 12, () -> x.store(6, 2, 4));
    }

    private void aStoreOfNoElement() {
        c.sentence("Promise 3: IllegalArgumentException when .. e no element");
        ArrayClaims x = Make.withTerms(12);
        for (int t : new int[] {0, 1, 2, 5, 6, 10, 11}) {
            c.dueThrow("store(5, 0, " + t + ")", Answer.ARGUMENT, () -> x.store(5, 0, t));
        }
        c.due("store(5, 0, 9), an element", 12, () -> x.store(5, 0, 9));
    }

    private void aStoreTooMany() {
        c.sentence("Promise 3: UnsupportedOperationException when there are 24 terms");
        ArrayClaims x = Make.withTerms(23);
        c.due("store(6, 0, 4), a 24th", 23, () -> x.store(6, 0, 4));
        c.dueThrow("store(6, 1, 4), a 25th", Answer.FULL, () -> x.store(6, 1, 4));
        c.dueThrow("store(6, 0, 3), a 25th", Answer.FULL, () -> x.store(6, 0, 3));
        c.dueThrow("store(23, 0, 4), a 25th", Answer.FULL, () -> x.store(23, 0, 4));
        c.due("terms()", 24, x::terms);
    }

    private void howManyTermsThereAre() {
        c.sentence("Promise 4: How many terms there are");
        for (int count = 7; count <= 24; count++) {
            ArrayClaims x = Make.withTerms(count);
            c.due("terms() with " + count, count, x::terms);
            Make.claim(x, 0, 1, 1);
            x.keep(0);
            x.clear();
            c.due("terms() with " + count + " after a claim, keep(0) and clear()", count, x::terms);
        }
    }

    private void theSortOfATerm() {
        c.sentence("Promise 5: The sort of a term");
        ArrayClaims x = Make.withTerms(24);
        for (int t = 0; t < 24; t++) {
            int term = t;
            int want = t < 3 ? 0 : t < 5 || t >= 7 && t < 10 ? 1 : 2;
            c.due("sort(" + t + ")", want, () -> x.sort(term));
        }
    }

    private void theSortOfNoTerm() {
        c.sentence("Promise 5: NONE when there is none such");
        for (int count = 7; count <= 24; count++) {
            ArrayClaims x = Make.withTerms(count);
            for (int t = count; t <= 26; t++) {
                int term = t;
                c.due("with " + count + " terms: sort(" + t + ")", ArrayClaims.NONE, () -> x.sort(term));
            }
        }
        ArrayClaims x = new ArrayClaims();
        for (int t : Make.FAR) {
            c.due("sort(" + t + ")", ArrayClaims.NONE, () -> x.sort(t));
        }
    }

    private Checks run() {
        twentyFourTermsAtMost();
        atFirstThereAreSeven();
        arrayAndElementAreMadeBefore();
        aNewObjectHasNoClaims();
        aNewObjectHasAnEmptyDraft();
        aNewObjectIsNewThoughOthersAreFull();
        aSelectMadeBeforeHasItsNumber();
        aSelectMadeBeforeHasItsNumberWhenFull();
        aSelectOfNoTerm();
        aSelectOfNoArray();
        aSelectAtNoIndex();
        aSelectTooMany();
        aStoreMadeBeforeHasItsNumber();
        aStoreMadeBeforeHasItsNumberWhenFull();
        aStoreOfNoTerm();
        aStoreInNoArray();
        aStoreAtNoIndex();
        aStoreOfNoElement();
        aStoreTooMany();
        howManyTermsThereAre();
        theSortOfATerm();
        theSortOfNoTerm();
        return c;
    }

    public static void main(String[] args) {
        new TermEdgesTest().run().end();
    }
}
