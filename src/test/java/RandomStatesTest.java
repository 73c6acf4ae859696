import java.util.ArrayList;
import java.util.List;
import java.util.Random;

/**
 * Promises 12 to 17 in many states, each answer against a census of all readings. Each object goes through
 * several states, some of its claims staying, so that nothing of an earlier question or claim is left over.
 */
public final class RandomStatesTest {
    private static final int OBJECTS = 240;
    private static final int OBJECTS_IN_FULL = 4;
    private static final int STATES_OF_EACH = 3;

    private final Checks checks = new Checks();
    private final Random random;
    private final ArrayClaims x = new ArrayClaims();
    private final List<int[]> terms = new ArrayList<>();
    private final List<int[][]> claims = new ArrayList<>();
    private int[][] draft;
    private String told;
    private static int possible = 0;

    private RandomStatesTest(long seed) {
        random = new Random(seed);
        for (int t = 0; t < 7; t++) {
            terms.add(new int[] {t < 3 ? 0 : t < 5 ? 1 : 2, -1, -1, -1});
        }
    }

    private int anyOf(int sort) {
        int t = random.nextInt(terms.size());
        while (terms.get(t)[0] != sort) {
            t = random.nextInt(terms.size());
        }
        return t;
    }

    private void makeTerms() {
        int most = Math.min(24, terms.size() + random.nextInt(18));
        for (int tries = 0; tries < 200 && terms.size() < most; tries++) {
            boolean isStore = random.nextInt(5) < 3;
            int a = anyOf(2);
            int i = anyOf(0);
            int e = isStore ? anyOf(1) : -1;
            int made = isStore ? x.store(a, i, e) : x.select(a, i);
            if (made == terms.size()) {
                terms.add(new int[] {isStore ? 2 : 1, a, i, e});
            }
        }
    }

    private int[][] draftLiterals(int size, int sameOfTen) {
        int[][] literals = new int[size][];
        for (int k = 0; k < size; k++) {
            int kind = random.nextInt(6);
            int sort = kind == 0 ? 0 : kind < 4 ? 1 : 2;
            literals[k] = new int[] {anyOf(sort), anyOf(sort), random.nextInt(10) < sameOfTen ? 1 : 0};
            x.literal(literals[k][0], literals[k][1], literals[k][2] == 1);
        }
        return literals;
    }

    private void makeClaims() {
        int most = claims.size() + random.nextInt(9 - claims.size());
        int sameOfTen = 2 + random.nextInt(7);
        int longest = 1 + random.nextInt(3);
        x.clear();
        while (claims.size() < most) {
            claims.add(draftLiterals(1 + random.nextInt(longest), sameOfTen));
            x.claim();
        }
        draft = draftLiterals(1 + random.nextInt(3), sameOfTen);
    }

    private void dropClaims() {
        int stay = random.nextInt(claims.size() + 1);
        checks.due(told + "keep(" + stay + ")", true, () -> x.keep(stay));
        claims.subList(stay, claims.size()).clear();
    }

    private void compareAll(boolean inFull) {
        Census census = new Census(terms.toArray(new int[0][]), claims.toArray(new int[0][][]), draft, inFull);
        int all = (1 << claims.size()) - 1;
        boolean can = census.canHold(all);
        possible += can ? 1 : 0;
        checks.due(told + "can()", can, x::can);
        checks.due(told + "first()", firstOf(census), x::first);
        for (int k = 0; k < claims.size(); k++) {
            int claim = k;
            checks.due(told + "without(" + k + ")", census.canHold(all & ~(1 << k)), () -> x.without(claim));
        }
        checks.due(told + "follows()", !census.draftWrongSeen, x::follows);
        comparePairs(census, can);
        if (can) {
            checks.due(told + "apart(true)", census.fewestIndices, () -> x.apart(true));
            checks.due(told + "apart(false)", census.mostIndices, () -> x.apart(false));
        } else {
            checks.dueThrow(told + "apart(true)", IllegalStateException.class, () -> x.apart(true));
            checks.dueThrow(told + "apart(false)", IllegalStateException.class, () -> x.apart(false));
        }
    }

    private int firstOf(Census census) {
        for (int k = 0; k < claims.size(); k++) {
            if (!census.canHold((2 << k) - 1)) {
                return k;
            }
        }
        return ArrayClaims.NONE;
    }

    private void comparePairs(Census census, boolean can) {
        for (int t = 0; t < terms.size(); t++) {
            for (int u = 0; u < terms.size(); u++) {
                int left = t;
                int right = u;
                String call = told + "same(" + t + ", " + u + ")";
                if (terms.get(t)[0] != terms.get(u)[0]) {
                    checks.dueThrow(call, IllegalArgumentException.class, () -> x.same(left, right));
                } else if (!can) {
                    checks.dueThrow(call, IllegalStateException.class, () -> x.same(left, right));
                } else {
                    int want = !census.differentSeen[t][u] ? ArrayClaims.ALWAYS
                            : census.sameSeen[t][u] ? ArrayClaims.MAYBE : ArrayClaims.NEVER;
                    checks.due(call, want, () -> x.same(left, right));
                }
            }
        }
    }

    private void compareCounts() {
        checks.due(told + "terms()", terms.size(), x::terms);
        checks.due(told + "draft()", draft.length, x::draft);
        checks.due(told + "claims()", claims.size(), x::claims);
    }

    private Checks run(String name, boolean inFull) {
        for (int state = 0; state < STATES_OF_EACH; state++) {
            told = name + ", state " + state + ": ";
            dropClaims();
            makeTerms();
            makeClaims();
            compareAll(inFull);
            compareCounts();
        }
        return checks;
    }

    public static void main(String[] args) {
        Checks whole = new Checks();
        int objects = OBJECTS + OBJECTS_IN_FULL;
        for (int seed = 0; seed < objects; seed++) {
            boolean inFull = seed >= OBJECTS;
            whole.addAll(new RandomStatesTest(seed).run("object " + seed, inFull));
        }
        System.out.println("claims can hold in " + possible + " of " + objects * STATES_OF_EACH + " states");
        whole.end();
    }
}
