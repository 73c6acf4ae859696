import java.util.ArrayList;
import java.util.Arrays;
import java.util.List;

/**
 * What the document asks of every call, as Answer texts: terms, draft and claims are plain lists, and the
 * questions are answered from a census of all readings.
 */
final class Model {
    private static final int INDEX = 0, ELEMENT = 1, ARRAY = 2;

    /** Each term is {sort, array, index, element}, with -1 where it has none. */
    private final List<int[]> terms = new ArrayList<>();
    private final List<int[][]> claims = new ArrayList<>();
    /** Each literal is {t, u, 1 for same or 0 for not}. */
    private final List<int[]> draft = new ArrayList<>();
    private final boolean elsewhereInFull;
    private Census census = null;

    Model(boolean elsewhereInFull) {
        this.elsewhereInFull = elsewhereInFull;
        for (int t = 0; t < 7; t++) {
            terms.add(new int[] {t < 3 ? INDEX : t < 5 ? ELEMENT : ARRAY, -1, -1, -1});
        }
    }

    private boolean isTerm(int t) {
        return t >= 0 && t < terms.size();
    }

    private boolean hasSort(int t, int sort) {
        return terms.get(t)[0] == sort;
    }

    private Census census() {
        if (census == null) {
            census = new Census(terms.toArray(new int[0][]), claims.toArray(new int[0][][]),
                    draft.toArray(new int[0][]), elsewhereInFull);
        }
        return census;
    }

    private int allClaims() {
        return (1 << claims.size()) - 1;
    }

    private boolean canHold() {
        return census().canHold(allClaims());
    }

    String select(int a, int i) {
        if (!isTerm(a) || !isTerm(i)) {
            return Answer.OUT;
        }
        return !hasSort(a, ARRAY) || !hasSort(i, INDEX) ? Answer.ARGUMENT : termOf(ELEMENT, a, i, -1);
    }

    String store(int a, int i, int e) {
        if (!isTerm(a) || !isTerm(i) || !isTerm(e)) {
            return Answer.OUT;
        }
        boolean fits = hasSort(a, ARRAY) && hasSort(i, INDEX) && hasSort(e, ELEMENT);
        return fits ? termOf(ARRAY, a, i, e) : Answer.ARGUMENT;
    }

    private String termOf(int... term) {
        for (int t = 0; t < terms.size(); t++) {
            if (Arrays.equals(terms.get(t), term)) {
                return Answer.of(t);
            }
        }
        if (terms.size() == 24) {
            return Answer.FULL;
        }
        terms.add(term);
        census = null;
        return Answer.of(terms.size() - 1);
    }

    String terms() {
        return Answer.of(terms.size());
    }

    String sort(int term) {
        return Answer.of(isTerm(term) ? terms.get(term)[0] : -1);
    }

    String literal(int t, int u, boolean same) {
        if (!isTerm(t) || !isTerm(u)) {
            return Answer.OUT;
        }
        if (terms.get(t)[0] != terms.get(u)[0]) {
            return Answer.ARGUMENT;
        }
        if (draft.size() == 3) {
            return Answer.STATE;
        }
        draft.add(new int[] {t, u, same ? 1 : 0});
        census = null;
        return Answer.of(draft.size());
    }

    String draft() {
        return Answer.of(draft.size());
    }

    void clear() {
        draft.clear();
        census = null;
    }

    String claim() {
        if (draft.isEmpty()) {
            return Answer.STATE;
        }
        if (claims.size() == 8) {
            return Answer.FULL;
        }
        claims.add(draft.toArray(new int[0][]));
        clear();
        return Answer.of(claims.size() - 1);
    }

    String keep(int n) {
        if (n < 0 || n > claims.size()) {
            return Answer.of(false);
        }
        claims.subList(n, claims.size()).clear();
        census = null;
        return Answer.of(true);
    }

    String claims() {
        return Answer.of(claims.size());
    }

    String can() {
        return Answer.of(canHold());
    }

    String first() {
        for (int k = 0; k < claims.size(); k++) {
            if (!census().canHold((2 << k) - 1)) {
                return Answer.of(k);
            }
        }
        return Answer.of(-1);
    }

    String without(int claim) {
        if (claim < 0 || claim >= claims.size()) {
            return Answer.OUT;
        }
        return Answer.of(census().canHold(allClaims() & ~(1 << claim)));
    }

    String same(int t, int u) {
        if (!isTerm(t) || !isTerm(u)) {
            return Answer.OUT;
        }
        if (terms.get(t)[0] != terms.get(u)[0]) {
            return Answer.ARGUMENT;
        }
        if (!canHold()) {
            return Answer.STATE;
        }
        boolean isSame = census().sameSeen[t][u];
        boolean isDifferent = census().differentSeen[t][u];
        return Answer.of(isSame && isDifferent ? 2 : isSame ? 1 : 0);
    }

    String follows() {
        return draft.isEmpty() ? Answer.STATE : Answer.of(!census().draftWrongSeen);
    }

    String apart(boolean fewest) {
        if (!canHold()) {
            return Answer.STATE;
        }
        return Answer.of(fewest ? census().fewestIndices : census().mostIndices);
    }
}
