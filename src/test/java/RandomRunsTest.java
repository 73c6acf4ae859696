import java.util.Random;

/**
 * All promises in runs of 512 calls, fitting and wrong ones mixed, each answer against the model. A refused call
 * that changes something is found by the answers behind it.
 */
public final class RandomRunsTest {
    private static final int OBJECTS = 32;
    private static final int[] FAR = {
        Integer.MIN_VALUE, -8, -1, 24, 25, 31, 32, 37, 1 << 30, Integer.MAX_VALUE};

    private final Random random;
    private final BothAsked both;
    private final RandomTerms terms;
    private final int sameOfTen;

    private RandomRunsTest(int seed, Checks checks) {
        random = new Random(seed);
        both = new BothAsked("run " + seed, false, checks);
        terms = new RandomTerms(random, both);
        sameOfTen = 3 + random.nextInt(6);
    }

    /** A term of any sort, sometimes the first number that is none, sometimes one far outside. */
    private int anyNumber() {
        int kind = random.nextInt(12);
        return kind == 0 ? FAR[random.nextInt(FAR.length)] : random.nextInt(terms.count() + 1);
    }

    private void anyCallThatMayBeWrong() {
        switch (random.nextInt(6)) {
            case 0 -> terms.select(anyNumberOr(2), anyNumberOr(0));
            case 1 -> terms.store(anyNumberOr(2), anyNumberOr(0), anyNumberOr(1));
            case 2 -> both.literal(anyNumber(), anyNumber(), random.nextBoolean());
            case 3 -> both.same(anyNumber(), anyNumber());
            case 4 -> both.sort(anyNumber());
            default -> both.without(random.nextInt(11) - 1);
        }
    }

    /** Mostly a wrong argument alone stands among fitting ones: then no other exception can hide a fault. */
    private int anyNumberOr(int sort) {
        return random.nextInt(3) == 0 ? anyNumber() : terms.any(sort);
    }

    private void anyQuestion() {
        switch (random.nextInt(6)) {
            case 0 -> both.can();
            case 1 -> both.first();
            case 2 -> both.without(random.nextInt(8));
            case 3 -> both.follows();
            case 4 -> both.apart(random.nextBoolean());
            default -> both.same(terms.any(1), terms.any(1));
        }
    }

    private void anyCount() {
        switch (random.nextInt(3)) {
            case 0 -> both.terms();
            case 1 -> both.draft();
            default -> both.claims();
        }
    }

    private void anyKeep() {
        boolean isFar = random.nextInt(4) == 0;
        both.keep(isFar ? FAR[random.nextInt(FAR.length)] : random.nextInt(12) - 1);
    }

    private void anyCall() {
        int kind = random.nextInt(100);
        if (kind < 12) {
            terms.make();
        } else if (kind < 34) {
            terms.draftLiteral(sameOfTen);
        } else if (kind < 50) {
            both.claim();
        } else if (kind < 52) {
            both.clear();
        } else if (kind < 54) {
            anyKeep();
        } else if (kind < 70) {
            anyCount();
        } else if (kind < 84) {
            anyCallThatMayBeWrong();
        } else {
            anyQuestion();
        }
    }

    private void run() {
        while (both.callsLeft() > 0) {
            anyCall();
        }
    }

    public static void main(String[] args) {
        Checks checks = new Checks();
        for (int seed = 0; seed < OBJECTS; seed++) {
            new RandomRunsTest(seed, checks).run();
        }
        checks.end();
    }
}
