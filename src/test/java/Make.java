/** Objects at the document's boundaries, and claims in one line. */
final class Make {
    /** Numbers that never are a term, a claim or a count of claims, in any state. */
    static final int[] FAR = {-1, -7, 24, 25, 31, 32, 39, 1 << 30, Integer.MIN_VALUE, Integer.MAX_VALUE};

    private Make() {
    }

    /** Literals in the draft, each told as t, u, and 1 for same or 0 for not. */
    static void draft(ArrayClaims x, int... parts) {
        for (int k = 0; k + 2 < parts.length; k += 3) {
            x.literal(parts[k], parts[k + 1], parts[k + 2] == 1);
        }
    }

    /** One claim of literals that are told as for the draft. */
    static void claim(ArrayClaims x, int... parts) {
        draft(x, parts);
        x.claim();
    }

    static void claims(ArrayClaims x, int count, int... parts) {
        for (int k = 0; k < count; k++) {
            claim(x, parts);
        }
    }

    /** Selects 7, 8, 9 of array 5; the stores of element 3 behind them, each into the one before. */
    static ArrayClaims withTerms(int count) {
        ArrayClaims x = new ArrayClaims();
        int array = 5;
        for (int t = 7; t < count; t++) {
            if (t < 10) {
                x.select(5, t - 7);
            } else {
                array = x.store(array, t % 3, 3);
            }
        }
        return x;
    }

    /** Claims that say of 0 and 1 that they are the same. */
    static ArrayClaims withClaims(int count) {
        ArrayClaims x = new ArrayClaims();
        claims(x, count, 0, 1, 1);
        return x;
    }

    /** Claims of which the last says the opposite of the others. */
    static ArrayClaims comingApart(int count) {
        ArrayClaims x = withClaims(count - 1);
        claim(x, 0, 1, 0);
        return x;
    }
}
