/**
 * Goes through all readings of a state one by one, with numbers for the indices and elements, and keeps what
 * it saw. The program knows an array by one place beside the named indices; here there are two, or else there
 * is one at which any element can be, so that a fault in that thought is seen.
 */
final class Census {
    private static final int NAMED = 3;

    private final int[][] terms;
    private final int[][][] claims;
    private final int[][] draft;
    private final boolean elsewhereInFull;
    private final int places;

    private final int[] index = new int[NAMED];
    private final int[][] value;
    private final int[] cell;

    final boolean[] masksSeen;
    final boolean[][] sameSeen;
    final boolean[][] differentSeen;
    boolean draftWrongSeen = false;
    int mostIndices = 0;
    int fewestIndices = 4;

    /**
     * A term is {sort, array, index, element}, with -1 where it has none; a literal is {t, u, 1 or 0}. In full,
     * the elements at one place elsewhere are any elements; else there are two such places, and the elements
     * there are none of the others, which is much less to go through.
     */
    Census(int[][] terms, int[][][] claims, int[][] draft, boolean elsewhereInFull) {
        this.terms = terms;
        this.claims = claims;
        this.draft = draft;
        this.elsewhereInFull = elsewhereInFull;
        places = NAMED + (elsewhereInFull ? 1 : 2);
        cell = new int[2 + 2 * places];
        value = new int[terms.length][places];
        masksSeen = new boolean[1 << claims.length];
        sameSeen = new boolean[terms.length][terms.length];
        differentSeen = new boolean[terms.length][terms.length];
        for (int one = 0; one < 2; one++) {
            for (int two = 0; two <= one + 1; two++) {
                index[1] = one;
                index[2] = two;
                fillCell(0, 0);
            }
        }
    }

    /** Cells 0 and 1 are the element names; behind them is the first array's row of places, then the second's. */
    private void fillCell(int at, int used) {
        if (at == cell.length) {
            look();
            return;
        }
        int place = at < 2 ? -1 : (at - 2) % places;
        if (place >= NAMED && !elsewhereInFull) {
            for (int element = 100; element <= (at < 2 + places ? 100 : 101); element++) {
                cell[at] = element;
                fillCell(at + 1, used);
            }
        } else if (place >= 0 && place < NAMED && !isIndex(place)) {
            cell[at] = -1;
            fillCell(at + 1, used);
        } else {
            for (int element = 0; element <= used; element++) {
                cell[at] = element;
                fillCell(at + 1, element == used ? used + 1 : used);
            }
        }
    }

    private boolean isIndex(int place) {
        return index[0] == place || index[1] == place || index[2] == place;
    }

    private void look() {
        for (int t = 0; t < terms.length; t++) {
            evaluate(t);
        }
        int mask = 0;
        for (int k = 0; k < claims.length; k++) {
            mask |= holds(claims[k]) ? 1 << k : 0;
        }
        masksSeen[mask] = true;
        if (mask == masksSeen.length - 1) {
            lookAtPairs();
            draftWrongSeen |= !holds(draft);
            int indices = (isIndex(0) ? 1 : 0) + (isIndex(1) ? 1 : 0) + (isIndex(2) ? 1 : 0);
            mostIndices = Math.max(mostIndices, indices);
            fewestIndices = Math.min(fewestIndices, indices);
        }
    }

    private void lookAtPairs() {
        for (int t = 0; t < terms.length; t++) {
            for (int u = 0; u < terms.length; u++) {
                if (terms[t][0] == terms[u][0]) {
                    (areSame(t, u) ? sameSeen : differentSeen)[t][u] = true;
                }
            }
        }
    }

    private void evaluate(int t) {
        int[] v = value[t];
        if (t < 3) {
            v[0] = index[t];
        } else if (t < 5) {
            v[0] = cell[t - 3];
        } else if (t < 7) {
            System.arraycopy(cell, 2 + (t - 5) * places, v, 0, places);
        } else if (terms[t][0] == 1) {
            v[0] = value[terms[t][1]][index[terms[t][2]]];
        } else {
            System.arraycopy(value[terms[t][1]], 0, v, 0, places);
            v[index[terms[t][2]]] = value[terms[t][3]][0];
        }
    }

    private boolean areSame(int t, int u) {
        for (int k = 0; k < (terms[t][0] == 2 ? places : 1); k++) {
            if (value[t][k] != value[u][k]) {
                return false;
            }
        }
        return true;
    }

    private boolean holds(int[][] literals) {
        for (int[] literal : literals) {
            if (areSame(literal[0], literal[1]) == (literal[2] == 1)) {
                return true;
            }
        }
        return false;
    }

    /** Whether there is a reading in which all claims of a set hold, which is told by its bits. */
    boolean canHold(int set) {
        for (int mask = 0; mask < masksSeen.length; mask++) {
            if (masksSeen[mask] && (mask & set) == set) {
                return true;
            }
        }
        return false;
    }
}
