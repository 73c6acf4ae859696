/**
 * Goes through all readings of a state one by one, with numbers for the indices and elements, and keeps what
 * it saw. It shares no thought with the program but that three named indices and one elsewhere are enough.
 */
final class Census {
    private static final int ELSEWHERE = 3;
    private static final int CELLS = 4;

    private final int[][] terms;
    private final int[][][] claims;
    private final int[][] draft;
    private final boolean elsewhereInFull;

    private final int[] index = new int[3];
    private final int[][] value;
    private final int[] cell = new int[10];

    final boolean[] masksSeen;
    final boolean[][] sameSeen;
    final boolean[][] differentSeen;
    boolean draftWrongSeen = false;
    int mostIndices = 0;
    int fewestIndices = 4;

    /**
     * A term is {sort, array, index, element}, with -1 where it has none; a literal is {t, u, 1 or 0}. In full,
     * elements elsewhere are any elements; else they are none of the others, which is thirteen times less.
     */
    Census(int[][] terms, int[][][] claims, int[][] draft, boolean elsewhereInFull) {
        this.terms = terms;
        this.claims = claims;
        this.draft = draft;
        this.elsewhereInFull = elsewhereInFull;
        value = new int[terms.length][CELLS];
        masksSeen = new boolean[1 << claims.length];
        sameSeen = new boolean[terms.length][terms.length];
        differentSeen = new boolean[terms.length][terms.length];
        for (int one = 0; one < 2; one++) {
            for (int two = 0; two <= one + 1; two++) {
                index[1] = one;
                index[2] = two;
                fillCell(0, 0);
            }
        }
    }

    /** Cells 0 and 1 are the element names, 2 to 5 the first array, 6 to 9 the second. */
    private void fillCell(int at, int used) {
        if (at == cell.length) {
            look();
            return;
        }
        int place = at < 2 ? -1 : (at - 2) % CELLS;
        if (place == ELSEWHERE && !elsewhereInFull) {
            for (int element = 100; element <= (at < 6 ? 100 : 101); element++) {
                cell[at] = element;
                fillCell(at + 1, used);
            }
        } else if (place >= 0 && place < ELSEWHERE && !isIndex(place)) {
            cell[at] = -1;
            fillCell(at + 1, used);
        } else {
            for (int element = 0; element <= used; element++) {
                cell[at] = element;
                fillCell(at + 1, element == used ? used + 1 : used);
            }
        }
    }

    private boolean isIndex(int place) {
        return index[0] == place || index[1] == place || index[2] == place;
    }

    private void look() {
        for (int t = 0; t < terms.length; t++) {
            evaluate(t);
        }
        int mask = 0;
        for (int k = 0; k < claims.length; k++) {
            mask |= holds(claims[k]) ? 1 << k : 0;
        }
        masksSeen[mask] = true;
        if (mask == masksSeen.length - 1) {
            lookAtPairs();
            draftWrongSeen |= !holds(draft);
            int indices = (isIndex(0) ? 1 : 0) + (isIndex(1) ? 1 : 0) + (isIndex(2) ? 1 : 0);
            mostIndices = Math.max(mostIndices, indices);
            fewestIndices = Math.min(fewestIndices, indices);
        }
    }

    private void lookAtPairs() {
        for (int t = 0; t < terms.length; t++) {
            for (int u = 0; u < terms.length; u++) {
                if (terms[t][0] == terms[u][0]) {
                    (areSame(t, u) ? sameSeen : differentSeen)[t][u] = true;
                }
            }
        }
    }

    private void evaluate(int t) {
        int[] v = value[t];
        if (t < 3) {
            v[0] = index[t];
        } else if (t < 5) {
            v[0] = cell[t - 3];
        } else if (t < 7) {
            System.arraycopy(cell, 2 + (t - 5) * CELLS, v, 0, CELLS);
        } else if (terms[t][0] == 1) {
            v[0] = value[terms[t][1]][index[terms[t][2]]];
        } else {
            System.arraycopy(value[terms[t][1]], 0, v, 0, CELLS);
            v[index[terms[t][2]]] = value[terms[t][3]][0];
        }
    }

    private boolean areSame(int t, int u) {
        for (int k = 0; k < (terms[t][0] == 2 ? CELLS : 1); k++) {
            if (value[t][k] != value[u][k]) {
                return false;
            }
        }
        return true;
    }

    private boolean holds(int[][] literals) {
        for (int[] literal : literals) {
            if (areSame(literal[0], literal[1]) == (literal[2] == 1)) {
                return true;
            }
        }
        return false;
    }

    /** Whether there is a reading in which all claims of a set hold, which is told by its bits. */
    boolean canHold(int set) {
        for (int mask = 0; mask < masksSeen.length; mask++) {
            if (masksSeen[mask] && (mask & set) == set) {
                return true;
            }
        }
        return false;
    }
}
