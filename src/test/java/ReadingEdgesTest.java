/** What the document says under "Terms" of indices, elements, arrays and readings, at its edges: a method for each. */
public final class ReadingEdgesTest {
    private static final int NEVER = ArrayClaims.NEVER, ALWAYS = ArrayClaims.ALWAYS, MAYBE = ArrayClaims.MAYBE;

    /** Each way in which three names can be the same: for each name the lowest name of its index. */
    private static final int[][] WAYS = {{0, 0, 0}, {0, 0, 2}, {0, 1, 0}, {0, 1, 1}, {0, 1, 2}};

    private final Checks c = new Checks();

    private static int[] selects(ArrayClaims x, int array) {
        return new int[] {x.select(array, 0), x.select(array, 1), x.select(array, 2)};
    }

    private static void indicesAllDiffer(ArrayClaims x) {
        Make.claim(x, 0, 1, 0);
        Make.claim(x, 0, 2, 0);
        Make.claim(x, 1, 2, 0);
    }

    /** The array with element 3 at each of the three names. */
    private static int overwritten(ArrayClaims x, int array) {
        return x.store(x.store(x.store(array, 0, 3), 1, 3), 2, 3);
    }

    private void moreIndicesThanNames() {
        c.sentence("Terms: INDICES and ELEMENTS, infinitely many of each (an index beside three different names)");
        ArrayClaims x = new ArrayClaims();
        indicesAllDiffer(x);
        int[] left = selects(x, 5);
        int[] right = selects(x, 6);
        for (int i = 0; i < 3; i++) {
            Make.claim(x, left[i], right[i], 1);
        }
        c.due("arrays the same at all names", MAYBE, () -> x.same(5, 6));
        Make.claim(x, 5, 6, 0);
        c.due("can() when they differ elsewhere", true, x::can);
        int leftAll = overwritten(x, 5);
        int rightAll = overwritten(x, 6);
        c.due("the two with one element at all names", NEVER, () -> x.same(leftAll, rightAll));
    }

    private void elsewhereWhenNamesAreOneIndex() {
        c.sentence("Terms: INDICES .. infinitely many (an index beside three names of one)");
        ArrayClaims x = new ArrayClaims();
        Make.claim(x, 0, 1, 1);
        Make.claim(x, 1, 2, 1);
        Make.claim(x, x.select(5, 0), x.select(6, 0), 1);
        Make.claim(x, 5, 6, 0);
        c.due("can()", true, x::can);
        int left = x.store(5, 1, 4);
        int right = x.store(6, 2, 4);
        c.due("the two with one element there", NEVER, () -> x.same(left, right));
    }

    /** Ten pairs of five elements: seven are claimed to be different, and the draft denies it of the other three. */
    private void moreElementsThanNames() {
        c.sentence("Terms: INDICES and ELEMENTS, infinitely many of each (five different elements)");
        ArrayClaims x = new ArrayClaims();
        int[] reads = selects(x, 5);
        int[] five = {3, 4, reads[0], reads[1], reads[2]};
        for (int k = 0; k < 5; k++) {
            for (int m = 0; m < k; m++) {
                x.literal(five[k], five[m], x.claims() == 7);
                if (x.claims() < 7) {
                    x.claim();
                }
            }
        }
        c.due("follows() that two of the five are the same", false, x::follows);
        c.due("can()", true, x::can);
    }

    private void sameAtEveryIndex() {
        c.sentence("Terms: two arrays are the same when they have the same element at every index");
        ArrayClaims x = new ArrayClaims();
        int[] left = selects(x, 5);
        int[] right = selects(x, 6);
        Make.claim(x, overwritten(x, 5), overwritten(x, 6), 1);
        c.due("arrays the same beside the names", MAYBE, () -> x.same(5, 6));
        Make.claim(x, left[0], right[0], 1);
        Make.claim(x, left[1], right[1], 1);
        c.due("and at two names", MAYBE, () -> x.same(5, 6));
        Make.claim(x, left[2], right[2], 1);
        c.due("and at all names", ALWAYS, () -> x.same(5, 6));
        x.keep(3);
        Make.claim(x, left[2], right[2], 0);
        c.due("and not at the third", NEVER, () -> x.same(5, 6));
        c.due("whose index is then another", NEVER, () -> x.same(0, 2));
    }

    private void theElementAtAnIndex() {
        c.sentence("Terms: a SELECT of an array a and an index name i is the element that a has at i");
        ArrayClaims x = new ArrayClaims();
        int[] left = selects(x, 5);
        int right = x.select(6, 0);
        c.due("at two names", MAYBE, () -> x.same(left[0], left[1]));
        c.due("of two arrays", MAYBE, () -> x.same(left[0], right));
        Make.claim(x, 0, 1, 1);
        c.due("at two names of one index", ALWAYS, () -> x.same(left[0], left[1]));
        c.due("at a third name", MAYBE, () -> x.same(left[0], left[2]));
        Make.claim(x, 5, 6, 1);
        c.due("of two names of one array", ALWAYS, () -> x.same(left[1], right));
        x.keep(0);
        Make.claim(x, left[0], left[1], 0);
        c.due("of different elements the indices differ", NEVER, () -> x.same(0, 1));
    }

    private void theElementThatWasWritten() {
        c.sentence("Terms: a STORE .. is the array that has e at i");
        ArrayClaims x = new ArrayClaims();
        int written = x.store(5, 0, 3);
        int[] reads = selects(x, written);
        c.due("at the name", ALWAYS, () -> x.same(reads[0], 3));
        c.due("at another name", MAYBE, () -> x.same(reads[1], 3));
        c.due("another element", MAYBE, () -> x.same(reads[0], 4));
        Make.claim(x, 0, 2, 1);
        c.due("at another name of the index", ALWAYS, () -> x.same(reads[2], 3));
        int again = x.store(written, 2, 4);
        int read = x.select(again, 0);
        c.due("written over by another name of the index", ALWAYS, () -> x.same(read, 4));
        Make.claim(x, x.select(5, 0), 3, 0);
        Make.claim(x, written, 6, 1);
        c.due("can() when another array is the one with it", true, x::can);
        int other = x.select(6, 2);
        c.due("which has it at another name of the index, too", ALWAYS, () -> x.same(other, 3));
    }

    private void whatWasThereAtAllOtherIndices() {
        c.sentence("Terms: a STORE .. has .. at all other indices what a has there");
        ArrayClaims x = new ArrayClaims();
        int written = x.store(5, 0, 3);
        int[] before = selects(x, 5);
        int[] after = selects(x, written);
        c.due("at another name, perhaps of the index", MAYBE, () -> x.same(before[1], after[1]));
        indicesAllDiffer(x);
        c.due("at the name itself", MAYBE, () -> x.same(before[0], after[0]));
        c.due("at a second index", ALWAYS, () -> x.same(before[1], after[1]));
        c.due("at a third index", ALWAYS, () -> x.same(before[2], after[2]));
        Make.claim(x, before[0], 3, 1);
        c.due("all, when the element was there", ALWAYS, () -> x.same(5, written));
        x.keep(3);
        Make.claim(x, before[0], 3, 0);
        c.due("not all, when it was not", NEVER, () -> x.same(5, written));
    }

    private void aLongRowOfStores() {
        c.sentence("Terms: a STORE of an array a .. (terms made before, to the 24th)");
        ArrayClaims x = new ArrayClaims();
        int first = x.select(5, 1);
        int array = 5;
        for (int t = 8; t < 23; t++) {
            array = t % 2 == 0 ? x.store(array, 0, 3) : x.store(array, 2, 4);
        }
        int last = x.select(array, 1);
        c.due("the last term", 23, () -> last);
        Make.claim(x, 0, 1, 0);
        Make.claim(x, 1, 2, 0);
        c.due("what fifteen stores left alone", ALWAYS, () -> x.same(first, last));
        x.keep(0);
        Make.claim(x, 1, 2, 1);
        Make.claim(x, 0, 1, 0);
        c.due("what they wrote", ALWAYS, () -> x.same(last, 4));
    }

    private void eachWayInWhichIndicesAreTheSame() {
        c.sentence("Terms: A READING says which indices .. the names .. are (each way in which they are the same)");
        for (int[] way : WAYS) {
            ArrayClaims x = new ArrayClaims();
            for (int i = 0; i < 3; i++) {
                Make.claim(x, i, (i + 1) % 3, way[i] == way[(i + 1) % 3] ? 1 : 0);
            }
            for (int i = 0; i < 3; i++) {
                for (int j = 0; j < 3; j++) {
                    aReadBehindAWrite(x, i, j, way[i] == way[j]);
                }
            }
        }
    }

    private void aReadBehindAWrite(ArrayClaims x, int i, int j, boolean oneIndex) {
        String told = "names " + i + " and " + j + (oneIndex ? " of one index: " : " of two indices: ");
        int before = x.select(5, j);
        int written = x.store(5, i, 3);
        int after = x.select(written, j);
        int there = x.select(5, i);
        int other = x.store(5, j, 3);
        c.due(told + "the read is what was written", oneIndex ? ALWAYS : MAYBE, () -> x.same(after, 3));
        c.due(told + "the read is what was there", oneIndex ? MAYBE : ALWAYS, () -> x.same(after, before));
        c.due(told + "the read is another element", MAYBE, () -> x.same(after, 4));
        c.due(told + "the reads at both", oneIndex ? ALWAYS : MAYBE, () -> x.same(there, before));
        c.due(told + "the writes at both", oneIndex ? ALWAYS : MAYBE, () -> x.same(written, other));
        c.due(told + "the two names", oneIndex ? ALWAYS : NEVER, () -> x.same(i, j));
    }

    private void eachTermIsSomething() {
        c.sentence("Terms: In a reading each term is something (three terms of one sort)");
        ArrayClaims x = new ArrayClaims();
        int read = x.select(5, 0);
        int otherRead = x.select(6, 1);
        int written = x.store(5, 0, 3);
        int otherWritten = x.store(6, 1, 4);
        int[][] threes = {{0, 1, 2}, {3, 4, read}, {read, 3, otherRead}, {5, 6, written}, {written, 5, otherWritten}};
        for (int[] t : threes) {
            for (int turn = 0; turn < 3; turn++) {
                threeTerms(x, t[turn], t[(turn + 1) % 3], t[(turn + 2) % 3]);
            }
        }
    }

    private void threeTerms(ArrayClaims x, int t, int u, int v) {
        String told = "terms " + t + ", " + u + ", " + v + ": ";
        Make.claim(x, t, u, 1);
        Make.claim(x, u, v, 1);
        c.due(told + "both are the second", ALWAYS, () -> x.same(t, v));
        Make.claim(x, v, t, 0);
        c.due(told + "both are the second, and are not the same", false, x::can);
        x.keep(1);
        Make.claim(x, u, v, 0);
        c.due(told + "one is the second", NEVER, () -> x.same(t, v));
        x.keep(0);
        Make.claim(x, t, u, 0);
        Make.claim(x, u, v, 0);
        c.due(told + "neither is the second", MAYBE, () -> x.same(t, v));
        x.keep(0);
    }

    /** The first claim says nothing, but whoever tries "4 is 3" for it first must take back what came of that. */
    private void someReadingIsEnough() {
        c.sentence("Terms: CAN HOLD if there is a reading (not the one that is tried first)");
        for (int same = 0; same < 2; same++) {
            ArrayClaims x = new ArrayClaims();
            int read = x.select(5, 0);
            Make.claim(x, 3, 4, 1, 3, 4, 0);
            Make.claim(x, read, 3, same);
            Make.claim(x, read, 4, 1 - same);
            c.due("can(), the read being one of 3 and 4 alone", true, x::can);
            c.due("first()", ArrayClaims.NONE, x::first);
            c.due("3 is never 4 then", NEVER, () -> x.same(3, 4));
            c.due("the read is 3", same == 1 ? ALWAYS : NEVER, () -> x.same(read, 3));
            c.due("the read is 4", same == 1 ? NEVER : ALWAYS, () -> x.same(read, 4));
        }
    }

    private void oneAtLeastOfItsLiterals() {
        c.sentence("Terms: a claim HOLDS when one at least of its literals is right");
        for (int right = 0; right < 8; right++) {
            ArrayClaims x = new ArrayClaims();
            Make.draft(x, 0, 0, right & 1, 3, 3, right >> 1 & 1, 5, 5, right >> 2);
            c.due("follows() of three literals, right by bits " + right, right != 0, x::follows);
            x.claim();
            c.due("can() of three literals, right by bits " + right, right != 0, x::can);
        }
    }

    private void eachOfThemHolds() {
        c.sentence("Terms: Some claims CAN HOLD if there is a reading in which each of them holds");
        ArrayClaims x = new ArrayClaims();
        Make.claim(x, 3, 4, 1, 0, 1, 1);
        Make.claim(x, 3, 4, 0, 0, 1, 0);
        c.due("can() of two that are right by different literals", true, x::can);
        Make.claim(x, 3, 4, 1, 0, 1, 0);
        c.due("can() of three", true, x::can);
        Make.claim(x, 3, 4, 0, 0, 1, 1);
        c.due("can() of four, each three of which can", false, x::can);
        for (int k = 0; k < 4; k++) {
            int claim = k;
            c.due("without(" + k + ")", true, () -> x.without(claim));
        }
    }

    private Checks run() {
        moreIndicesThanNames();
        elsewhereWhenNamesAreOneIndex();
        moreElementsThanNames();
        sameAtEveryIndex();
        theElementAtAnIndex();
        theElementThatWasWritten();
        whatWasThereAtAllOtherIndices();
        aLongRowOfStores();
        eachWayInWhichIndicesAreTheSame();
        eachTermIsSomething();
        someReadingIsEnough();
        oneAtLeastOfItsLiterals();
        eachOfThemHolds();
        return c;
    }

    public static void main(String[] args) {
        new ReadingEdgesTest().run().end();
    }
}
