/** Promises 12 to 17: can, first, without, same, follows, apart. */
public final class AnswersTest {
    private static final String OUT = Answer.OUT;
    private static final String ARGUMENT = Answer.ARGUMENT;
    private static final String STATE = Answer.STATE;
    private static final int NEVER = ArrayClaims.NEVER, ALWAYS = ArrayClaims.ALWAYS, MAYBE = ArrayClaims.MAYBE;

    private static void withoutClaims(Checks c) {
        ArrayClaims x = new ArrayClaims();
        c.due("no claims: can()", true, x::can);
        c.due("no claims: first()", -1, x::first);
        c.dueThrow("no claims: without(0)", OUT, () -> x.without(0));
        c.dueThrow("no claims: follows()", STATE, x::follows);
        c.due("no claims: apart(true)", 1, () -> x.apart(true));
        c.due("no claims: apart(false)", 3, () -> x.apart(false));
        for (int t = 0; t < 7; t++) {
            for (int u = 0; u < 7; u++) {
                int left = t;
                int right = u;
                if (x.sort(t) == x.sort(u)) {
                    c.due("no claims: same(" + t + ", " + u + ")", t == u ? ALWAYS : MAYBE,
                            () -> x.same(left, right));
                }
            }
        }
    }

    private static void firstAndWithout(Checks c) {
        ArrayClaims x = new ArrayClaims();
        Make.claim(x, 3, 4, 1);
        Make.claim(x, 0, 1, 1, 3, 4, 0);
        Make.claim(x, 0, 2, 1, 1, 2, 0);
        c.due("can() of three", true, x::can);
        c.due("first() of three", -1, x::first);
        Make.claim(x, 0, 1, 0);
        Make.claim(x, 1, 1, 1);
        c.due("can() of five", false, x::can);
        c.due("first() of five", 3, x::first);
        c.due("without(0)", true, () -> x.without(0));
        c.due("without(1)", true, () -> x.without(1));
        c.due("without(2)", false, () -> x.without(2));
        c.due("without(3)", true, () -> x.without(3));
        c.due("without(4)", false, () -> x.without(4));
        for (int n : new int[] {-1, 5, 8, Integer.MIN_VALUE, Integer.MAX_VALUE}) {
            c.dueThrow("without(" + n + ")", OUT, () -> x.without(n));
        }
        c.due("claims() stays", 5, x::claims);
    }

    private static void aClaimThatCanNeverHold(Checks c) {
        ArrayClaims x = new ArrayClaims();
        Make.claim(x, 5, 5, 0, 0, 0, 0, 3, 3, 0);
        c.due("can()", false, x::can);
        c.due("first()", 0, x::first);
        c.due("without(0)", true, () -> x.without(0));
        c.dueThrow("same(0, 0)", STATE, () -> x.same(0, 0));
        c.dueThrow("same(0, 3)", ARGUMENT, () -> x.same(0, 3));
        c.dueThrow("same(3, 7)", OUT, () -> x.same(3, 7));
        c.dueThrow("apart(true)", STATE, () -> x.apart(true));
        c.dueThrow("apart(false)", STATE, () -> x.apart(false));
        c.dueThrow("follows() without a draft", STATE, x::follows);
        x.literal(0, 0, false);
        c.due("follows(), as no reading is left", true, x::follows);
    }

    private static void wrongPairsAreRefused(Checks c) {
        ArrayClaims x = new ArrayClaims();
        for (int t : new int[] {-1, 7, 24, Integer.MIN_VALUE, Integer.MAX_VALUE}) {
            c.dueThrow("same(" + t + ", 0)", OUT, () -> x.same(t, 0));
            c.dueThrow("same(5, " + t + ")", OUT, () -> x.same(5, t));
        }
        c.dueThrow("same(0, 3)", ARGUMENT, () -> x.same(0, 3));
        c.dueThrow("same(3, 5)", ARGUMENT, () -> x.same(3, 5));
        c.dueThrow("same(6, 2)", ARGUMENT, () -> x.same(6, 2));
    }

    private static void readingWhatWasWritten(Checks c) {
        ArrayClaims x = new ArrayClaims();
        int written = x.store(5, 0, 3);
        int there = x.select(written, 0);
        int other = x.select(written, 1);
        int before = x.select(5, 1);
        c.due("what was written", ALWAYS, () -> x.same(there, 3));
        c.due("beside it, perhaps", MAYBE, () -> x.same(other, before));
        Make.claim(x, 0, 1, 0);
        c.due("beside it", ALWAYS, () -> x.same(other, before));
        x.keep(0);
        Make.claim(x, other, before, 0);
        c.due("a read that changed was at the write", ALWAYS, () -> x.same(0, 1));
        c.due("and what it had was not what was written", NEVER, () -> x.same(before, 3));
        c.due("apart(false)", 2, () -> x.apart(false));
        c.due("apart(true)", 1, () -> x.apart(true));
    }

    private static void arraysAreKnownByTheirElements(Checks c) {
        ArrayClaims x = new ArrayClaims();
        int back = x.store(5, 0, x.select(5, 0));
        c.due("writing back what is there", ALWAYS, () -> x.same(back, 5));
        int twice = x.store(x.store(5, 0, 3), 0, 4);
        int once = x.store(5, 0, 4);
        c.due("the last write counts", ALWAYS, () -> x.same(twice, once));
        int oneWay = x.store(x.store(6, 0, 3), 1, 4);
        int otherWay = x.store(x.store(6, 1, 4), 0, 3);
        Make.claim(x, oneWay, otherWay, 0);
        c.due("writes whose order counts are at one index", ALWAYS, () -> x.same(0, 1));
        c.due("and of different elements", NEVER, () -> x.same(3, 4));
    }

    private static void arraysCanDifferElsewhere(Checks c) {
        ArrayClaims x = new ArrayClaims();
        for (int i = 0; i < 3; i++) {
            Make.claim(x, x.select(5, i), x.select(6, i), 1);
        }
        Make.claim(x, 5, 6, 0);
        c.due("the same at all names, yet different", true, x::can);
        int left = x.store(5, 0, 3);
        int right = x.store(6, 0, 3);
        c.due("a write does not mend what is elsewhere", NEVER, () -> x.same(left, right));
        x.keep(3);
        c.due("without that claim", MAYBE, () -> x.same(5, 6));
        Make.claim(x, left, right, 1);
        c.due("the same after a write and at its index", ALWAYS, () -> x.same(5, 6));
    }

    private static void elementsAreManyEnough(Checks c) {
        ArrayClaims x = new ArrayClaims();
        int[] reads = {3, 4, x.select(5, 0), x.select(5, 1), x.select(5, 2), x.select(6, 0), x.select(6, 1)};
        for (int k = 0; k + 1 < reads.length; k++) {
            Make.claim(x, reads[k], reads[k + 1], 0);
        }
        Make.claim(x, 0, 1, 0);
        Make.claim(x, 5, 6, 1, 3, reads[6], 0);
        c.due("many different elements", true, x::can);
        c.due("reads of one array with different elements", NEVER, () -> x.same(1, 2));
    }

    private static void whatFollows(Checks c) {
        ArrayClaims x = new ArrayClaims();
        int zero = x.select(5, 0);
        int one = x.select(5, 1);
        Make.claim(x, 0, 1, 1, 3, 4, 1);
        x.literal(zero, one, true);
        c.due("one literal does not follow", false, x::follows);
        x.literal(3, 4, true);
        c.due("two do", true, x::follows);
        c.due("the draft stays", 2, x::draft);
        c.due("the claims stay", 1, x::claims);
        x.clear();
        x.literal(5, 6, true);
        x.literal(5, 6, false);
        c.due("one of the two always holds", true, x::follows);
        x.clear();
        x.literal(2, 2, false);
        c.due("what never holds does not follow", false, x::follows);
        x.clear();
        x.literal(2, 2, true);
        c.due("what always holds follows", true, x::follows);
        x.clear();
        c.dueThrow("follows() without a draft", STATE, x::follows);
    }

    private static void theDraftIsNoClaim(Checks c) {
        ArrayClaims x = new ArrayClaims();
        x.literal(0, 1, false);
        c.due("same(0, 1)", MAYBE, () -> x.same(0, 1));
        c.due("apart(true)", 1, () -> x.apart(true));
        c.due("first()", -1, x::first);
    }

    private static void howManyIndices(Checks c) {
        ArrayClaims x = new ArrayClaims();
        Make.claim(x, 0, 1, 0);
        c.due("0 is not 1: apart(true)", 2, () -> x.apart(true));
        c.due("0 is not 1: apart(false)", 3, () -> x.apart(false));
        Make.claim(x, 0, 2, 0);
        Make.claim(x, 1, 2, 0);
        c.due("all different: apart(true)", 3, () -> x.apart(true));
        c.due("all different: apart(false)", 3, () -> x.apart(false));
        x.keep(0);
        Make.claim(x, 1, 2, 1);
        c.due("1 is 2: apart(true)", 1, () -> x.apart(true));
        c.due("1 is 2: apart(false)", 2, () -> x.apart(false));
        Make.claim(x, 0, 2, 1);
        c.due("all the same: apart(true)", 1, () -> x.apart(true));
        c.due("all the same: apart(false)", 1, () -> x.apart(false));
    }

    public static void main(String[] args) {
        Checks c = new Checks();
        withoutClaims(c);
        firstAndWithout(c);
        aClaimThatCanNeverHold(c);
        wrongPairsAreRefused(c);
        readingWhatWasWritten(c);
        arraysAreKnownByTheirElements(c);
        arraysCanDifferElsewhere(c);
        elementsAreManyEnough(c);
        whatFollows(c);
        theDraftIsNoClaim(c);
        howManyIndices(c);
        c.end();
    }
}
