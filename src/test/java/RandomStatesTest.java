import java.util.ArrayList;
import java.util.Collections;
import java.util.List;
import java.util.Random;

/**
 * Promises 12 to 17 in many states, each answer against a census of all readings. Each object goes through
 * several states, some of its claims staying, so that nothing of an earlier question or claim is left over.
 */
public final class RandomStatesTest {
    private static final int OBJECTS = 240;
    private static final int OBJECTS_IN_FULL = 4;
    private static final int STATES_OF_EACH = 3;
    private static final int CALLS_OF_STATE = BothAsked.MOST_CALLS / STATES_OF_EACH;

    private static int possible = 0;

    private final Random random;
    private final BothAsked both;
    private final RandomTerms terms;
    private int claims = 0;

    private RandomStatesTest(int seed, boolean inFull, Checks checks) {
        random = new Random(seed);
        both = new BothAsked("object " + seed, inFull, checks);
        terms = new RandomTerms(random, both);
    }

    private void dropClaims() {
        claims = random.nextInt(claims + 1);
        both.keep(claims);
    }

    private void makeTerms() {
        int most = Math.min(24, terms.count() + random.nextInt(18));
        for (int tries = 0; tries < 40 && terms.count() < most; tries++) {
            terms.make();
        }
    }

    private void draftLiterals(int longest, int sameOfTen) {
        int size = 1 + random.nextInt(longest);
        for (int k = 0; k < size; k++) {
            terms.draftLiteral(sameOfTen);
        }
    }

    private void makeClaims() {
        int most = claims + random.nextInt(9 - claims);
        int sameOfTen = 2 + random.nextInt(7);
        int longest = 1 + random.nextInt(3);
        both.clear();
        for (; claims < most; claims++) {
            draftLiterals(longest, sameOfTen);
            both.claim();
        }
        draftLiterals(3, sameOfTen);
    }

    private void askAll(int callsToLeave) {
        possible += both.can().equals(Answer.of(true)) ? 1 : 0;
        both.first();
        for (int k = 0; k < claims; k++) {
            both.without(k);
        }
        both.follows();
        both.apart(true);
        both.apart(false);
        both.terms();
        both.draft();
        both.claims();
        for (int[] pair : pairs()) {
            if (both.callsLeft() > callsToLeave) {
                both.same(pair[0], pair[1]);
            }
        }
    }

    /** All pairs of one sort in a random order, as an object has not calls enough for all of them. */
    private List<int[]> pairs() {
        List<int[]> pairs = new ArrayList<>();
        for (int sort = 0; sort < 3; sort++) {
            for (int t : terms.all(sort)) {
                for (int u : terms.all(sort)) {
                    pairs.add(new int[] {t, u});
                }
            }
        }
        Collections.shuffle(pairs, random);
        return pairs;
    }

    private void run() {
        for (int state = 1; state <= STATES_OF_EACH; state++) {
            dropClaims();
            makeTerms();
            makeClaims();
            askAll((STATES_OF_EACH - state) * CALLS_OF_STATE);
        }
    }

    public static void main(String[] args) {
        Checks checks = new Checks();
        int objects = OBJECTS + OBJECTS_IN_FULL;
        for (int seed = 0; seed < objects; seed++) {
            new RandomStatesTest(seed, seed >= OBJECTS, checks).run();
        }
        System.out.println("claims can hold in " + possible + " of " + objects * STATES_OF_EACH + " states");
        checks.end();
    }
}
