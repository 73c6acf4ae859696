import java.util.Arrays;

/**
 * Claims about arrays that are read and written at indices: whether they can all hold, which terms are
 * then always or never the same, what follows from them, and with which claim they come apart.
 */
public final class ArrayClaims {
    public static final int NONE = -1;
    public static final int NEVER = 0, ALWAYS = 1, MAYBE = 2;

    private static final int MOST_TERMS = 24;
    private static final int MOST_CLAIMS = 8;
    private static final int MOST_LITERALS = 3;

    private static final int INDEX = 0, ELEMENT = 1, ARRAY = 2;
    private static final int INDEX_NAMES = 3, ELEMENT_NAMES = 2, ARRAY_NAMES = 2;
    private static final int FIRST_ELEMENT = INDEX_NAMES;
    private static final int FIRST_ARRAY = FIRST_ELEMENT + ELEMENT_NAMES;
    private static final int NAMES = FIRST_ARRAY + ARRAY_NAMES;

    private final TermTable known;
    private final ClaimList made;
    private final int[] drafted;
    private int draftSize;
    private final ClaimList asked;
    private final ReadingSearch search;

    public ArrayClaims() {
        known = new TermTable();
        made = new ClaimList(MOST_CLAIMS);
        drafted = new int[MOST_LITERALS];
        draftSize = 0;
        // A question is about all claims and, beside them, at most the draft's literals one by one.
        asked = new ClaimList(MOST_CLAIMS + MOST_LITERALS);
        search = new ReadingSearch();
    }

    public int select(int a, int i)
            throws IndexOutOfBoundsException, IllegalArgumentException, UnsupportedOperationException {
        if (!known.has(a) || !known.has(i)) {
            throw new IndexOutOfBoundsException();
        }
        if (known.sortOf(a) != ARRAY || known.sortOf(i) != INDEX) {
            throw new IllegalArgumentException();
        }
        return termFor(ELEMENT, a, i, NONE);
    }

    public int store(int a, int i, int e)
            throws IndexOutOfBoundsException, IllegalArgumentException, UnsupportedOperationException {
        if (!known.has(a) || !known.has(i) || !known.has(e)) {
            throw new IndexOutOfBoundsException();
        }
        if (known.sortOf(a) != ARRAY || known.sortOf(i) != INDEX || known.sortOf(e) != ELEMENT) {
            throw new IllegalArgumentException();
        }
        return termFor(ARRAY, a, i, e);
    }

    public int terms() {
        return known.count;
    }

    public int sort(int term) {
        return known.sortOf(term);
    }

    public int literal(int t, int u, boolean same)
            throws IndexOutOfBoundsException, IllegalArgumentException, IllegalStateException {
        checkPair(t, u);
        if (draftSize >= MOST_LITERALS) {
            throw new IllegalStateException();
        }
        drafted[draftSize] = Literal.of(t, u, same);
        draftSize++;
        return draftSize;
    }

    public int draft() {
        return draftSize;
    }

    public void clear() {
        draftSize = 0;
    }

    public int claim() throws IllegalStateException, UnsupportedOperationException {
        if (draftSize == 0) {
            throw new IllegalStateException();
        }
        if (made.count >= MOST_CLAIMS) {
            throw new UnsupportedOperationException();
        }
        made.add(drafted, 0, draftSize);
        draftSize = 0;
        return made.count - 1;
    }

    public boolean keep(int n) {
        if (n < 0 || n > made.count) {
            return false;
        }
        made.cutTo(n);
        return true;
    }

    public int claims() {
        return made.count;
    }

    public boolean can() {
        askClaims(made.count, NONE);
        return isPossible();
    }

    public int first() {
        for (int claim = 0; claim < made.count; claim++) {
            askClaims(claim + 1, NONE);
            if (!isPossible()) {
                return claim;
            }
        }
        return NONE;
    }

    public boolean without(int claim) throws IndexOutOfBoundsException {
        if (claim < 0 || claim >= made.count) {
            throw new IndexOutOfBoundsException();
        }
        askClaims(made.count, claim);
        return isPossible();
    }

    public int same(int t, int u)
            throws IndexOutOfBoundsException, IllegalArgumentException, IllegalStateException {
        checkPair(t, u);
        askClaims(made.count, NONE);
        asked.addSingle(Literal.of(t, u, true));
        boolean canBeSame = isPossible();
        asked.cutTo(made.count);
        asked.addSingle(Literal.of(t, u, false));
        boolean canDiffer = isPossible();
        if (!canBeSame && !canDiffer) {
            throw new IllegalStateException();
        }
        if (canBeSame && canDiffer) {
            return MAYBE;
        }
        return canBeSame ? ALWAYS : NEVER;
    }

    public boolean follows() throws IllegalStateException {
        if (draftSize == 0) {
            throw new IllegalStateException();
        }
        askClaims(made.count, NONE);
        for (int k = 0; k < draftSize; k++) {
            asked.addSingle(Literal.opposite(drafted[k]));
        }
        return !isPossible();
    }

    public int apart(boolean fewest) throws IllegalStateException {
        askClaims(made.count, NONE);
        for (int step = 0; step < INDEX_NAMES; step++) {
            int different = fewest ? 1 + step : INDEX_NAMES - step;
            if (search.finds(known, asked, different, different)) {
                return different;
            }
        }
        throw new IllegalStateException();
    }

    private int termFor(int sort, int a, int i, int e) throws UnsupportedOperationException {
        int before = known.find(sort, a, i, e);
        if (before != NONE) {
            return before;
        }
        if (known.count >= MOST_TERMS) {
            throw new UnsupportedOperationException();
        }
        return known.add(sort, a, i, e);
    }

    private void checkPair(int t, int u) throws IndexOutOfBoundsException, IllegalArgumentException {
        if (!known.has(t) || !known.has(u)) {
            throw new IndexOutOfBoundsException();
        }
        if (known.sortOf(t) != known.sortOf(u)) {
            throw new IllegalArgumentException();
        }
    }

    private void askClaims(int upTo, int leftOut) {
        asked.cutTo(0);
        for (int claim = 0; claim < upTo; claim++) {
            if (claim != leftOut) {
                asked.addFrom(made, claim);
            }
        }
    }

    private boolean isPossible() {
        return search.finds(known, asked, 1, INDEX_NAMES);
    }

    /** The terms, each with what it was made of: names have NONE there, and a select has no element. */
    private static final class TermTable {
        private final int[] sorts = new int[MOST_TERMS];
        private final int[] arrays = new int[MOST_TERMS];
        private final int[] indices = new int[MOST_TERMS];
        private final int[] elements = new int[MOST_TERMS];
        private int count;

        TermTable() {
            for (int name = 0; name < NAMES; name++) {
                sorts[name] = name < FIRST_ELEMENT ? INDEX : name < FIRST_ARRAY ? ELEMENT : ARRAY;
                arrays[name] = NONE;
                indices[name] = NONE;
                elements[name] = NONE;
            }
            count = NAMES;
        }

        boolean has(int term) {
            return term >= 0 && term < count;
        }

        int sortOf(int term) {
            return has(term) ? sorts[term] : NONE;
        }

        int find(int sort, int a, int i, int e) {
            for (int term = NAMES; term < count; term++) {
                if (sorts[term] == sort && arrays[term] == a && indices[term] == i && elements[term] == e) {
                    return term;
                }
            }
            return NONE;
        }

        int add(int sort, int a, int i, int e) {
            if (count >= MOST_TERMS) {
                return NONE;
            }
            sorts[count] = sort;
            arrays[count] = a;
            indices[count] = i;
            elements[count] = e;
            count++;
            return count - 1;
        }
    }

    /** A literal packed into one int, so that a claim is a plain row of ints. */
    private static final class Literal {
        private static final int TERM_BITS = 5;
        private static final int TERM_MASK = (1 << TERM_BITS) - 1;
        private static final int SAME = 1 << (2 * TERM_BITS);

        static int of(int t, int u, boolean saysSame) {
            return t | u << TERM_BITS | (saysSame ? SAME : 0);
        }

        static int left(int literal) {
            return literal & TERM_MASK;
        }

        static int right(int literal) {
            return literal >> TERM_BITS & TERM_MASK;
        }

        static boolean saysSame(int literal) {
            return (literal & SAME) != 0;
        }

        static int opposite(int literal) {
            return literal ^ SAME;
        }
    }

    /** Claims one behind the other in one row, three places for each. */
    private static final class ClaimList {
        private final int[] literals;
        private final int[] sizes;
        private int count;

        ClaimList(int most) {
            literals = new int[most * MOST_LITERALS];
            sizes = new int[most];
            count = 0;
        }

        void add(int[] from, int start, int size) {
            if (count >= sizes.length || size > MOST_LITERALS) {
                return;
            }
            for (int k = 0; k < size; k++) {
                literals[count * MOST_LITERALS + k] = from[start + k];
            }
            sizes[count] = size;
            count++;
        }

        void addFrom(ClaimList other, int claim) {
            add(other.literals, claim * MOST_LITERALS, other.sizes[claim]);
        }

        void addSingle(int literal) {
            if (count >= sizes.length) {
                return;
            }
            literals[count * MOST_LITERALS] = literal;
            sizes[count] = 1;
            count++;
        }

        void cutTo(int size) {
            if (size >= 0 && size < count) {
                count = size;
            }
        }

        int sizeOf(int claim) {
            return sizes[claim];
        }

        int at(int claim, int k) {
            return literals[claim * MOST_LITERALS + k];
        }
    }

    /**
     * Looks for a reading in which all claims asked for hold.
     *
     * An array is known by its elements at four places: the three named indices, and one index elsewhere.
     * One place elsewhere is enough, since no term reads or writes there: two array names either are the
     * same at all other indices, or differ at one, and that one is then the place.
     * So a reading is, beside which index names are the same, a choice of an element for each of ten
     * spots: the two element names, and each array name at each place. Only which spots have the same
     * element matters, and as there are infinitely many elements every choice of that is a reading.
     */
    private static final class ReadingSearch {
        private static final int PLACES = INDEX_NAMES + 1;
        private static final int ELSEWHERE = INDEX_NAMES;
        private static final int SPOTS = ELEMENT_NAMES + ARRAY_NAMES * PLACES;
        private static final int FIRST_ELSEWHERE = ELEMENT_NAMES + ELSEWHERE;
        private static final int SECOND_ELSEWHERE = FIRST_ELSEWHERE + PLACES;

        // The elements 0 and 1 are kept for the spots elsewhere, which are compared with one another only.
        private static final int LAST_KEPT = 1;

        // Each way in which index names can be the same: for each name the lowest name that it is the same as.
        private static final int[] LOWEST = {0, 0, 0, 0, 0, 2, 0, 1, 0, 0, 1, 1, 0, 1, 2};
        private static final int[] DIFFERENT = {1, 2, 2, 2, 3};
        private static final int WAYS = 5;

        // What each term is: an index name's lowest name, an element's spot, an array's spot at each place.
        private final int[] parts = new int[MOST_TERMS * PLACES];
        private final int[] chosen = new int[SPOTS];

        boolean finds(TermTable known, ClaimList asked, int fewest, int most) {
            for (int way = 0; way < WAYS; way++) {
                if (DIFFERENT[way] >= fewest && DIFFERENT[way] <= most) {
                    spellOut(known, way);
                    Arrays.fill(chosen, NONE);
                    chosen[FIRST_ELSEWHERE] = 0;
                    if (completes(known, asked, LAST_KEPT + 1, 0)) {
                        return true;
                    }
                }
            }
            return false;
        }

        private static int lowest(int way, int indexName) {
            return LOWEST[way * INDEX_NAMES + indexName];
        }

        private void spellOut(TermTable known, int way) {
            spellOutNames(way);
            for (int term = NAMES; term < known.count; term++) {
                int array = known.arrays[term] * PLACES;
                int index = lowest(way, known.indices[term]);
                if (known.sorts[term] == ELEMENT) {
                    parts[term * PLACES] = parts[array + index];
                } else {
                    int element = parts[known.elements[term] * PLACES];
                    for (int place = 0; place < PLACES; place++) {
                        boolean written = place != ELSEWHERE && lowest(way, place) == index;
                        parts[term * PLACES + place] = written ? element : parts[array + place];
                    }
                }
            }
        }

        private void spellOutNames(int way) {
            for (int name = 0; name < INDEX_NAMES; name++) {
                parts[name * PLACES] = lowest(way, name);
            }
            for (int k = 0; k < ELEMENT_NAMES; k++) {
                parts[(FIRST_ELEMENT + k) * PLACES] = k;
            }
            for (int k = 0; k < ARRAY_NAMES; k++) {
                int spots = ELEMENT_NAMES + k * PLACES;
                for (int place = 0; place < PLACES; place++) {
                    int index = place == ELSEWHERE ? ELSEWHERE : lowest(way, place);
                    parts[(FIRST_ARRAY + k) * PLACES + place] = spots + index;
                }
            }
        }

        /** Whether elements can be chosen for the open spots; each level chooses one, so SPOTS are enough. */
        private boolean completes(TermTable known, ClaimList asked, int fresh, int depth) {
            int undecided = NONE;
            for (int claim = asked.count - 1; claim >= 0; claim--) {
                int holds = holding(known, asked, claim);
                if (holds == NEVER) {
                    return false;
                }
                if (holds == MAYBE) {
                    undecided = claim;
                }
            }
            if (undecided == NONE) {
                return true;
            }
            int spot = openSpot(known, asked, undecided);
            if (spot == NONE || depth > SPOTS) {
                return false;
            }
            // One element that no spot has yet is as good as any other such one.
            int from = spot == SECOND_ELSEWHERE ? 0 : LAST_KEPT + 1;
            int to = spot == SECOND_ELSEWHERE ? LAST_KEPT : fresh;
            for (int element = from; element <= to; element++) {
                chosen[spot] = element;
                if (completes(known, asked, element == fresh ? fresh + 1 : fresh, depth + 1)) {
                    return true;
                }
            }
            chosen[spot] = NONE;
            return false;
        }

        private int holding(TermTable known, ClaimList asked, int claim) {
            int answer = NEVER;
            for (int k = 0; k < asked.sizeOf(claim); k++) {
                int right = rightness(known, asked.at(claim, k));
                if (right == ALWAYS) {
                    return ALWAYS;
                }
                if (right == MAYBE) {
                    answer = MAYBE;
                }
            }
            return answer;
        }

        private int rightness(TermTable known, int literal) {
            int t = Literal.left(literal);
            int u = Literal.right(literal);
            int alike = ALWAYS;
            for (int place = 0; place < width(known.sorts[t]) && alike != NEVER; place++) {
                int here = partLikeness(known.sorts[t], parts[t * PLACES + place], parts[u * PLACES + place]);
                if (here != ALWAYS) {
                    alike = here;
                }
            }
            if (alike == MAYBE || Literal.saysSame(literal)) {
                return alike;
            }
            return alike == ALWAYS ? NEVER : ALWAYS;
        }

        private static int width(int sort) {
            return sort == ARRAY ? PLACES : 1;
        }

        private int partLikeness(int sort, int x, int y) {
            if (x == y) {
                return ALWAYS;
            }
            if (sort == INDEX) {
                return NEVER;
            }
            if (chosen[x] == NONE || chosen[y] == NONE) {
                return MAYBE;
            }
            return chosen[x] == chosen[y] ? ALWAYS : NEVER;
        }

        /** A spot without an element that an undecided claim waits for. */
        private int openSpot(TermTable known, ClaimList asked, int claim) {
            for (int k = 0; k < asked.sizeOf(claim); k++) {
                int literal = asked.at(claim, k);
                if (rightness(known, literal) == MAYBE) {
                    return openSpotOf(known, Literal.left(literal), Literal.right(literal));
                }
            }
            return NONE;
        }

        private int openSpotOf(TermTable known, int t, int u) {
            int sort = known.sorts[t];
            for (int place = 0; place < width(sort); place++) {
                int x = parts[t * PLACES + place];
                int y = parts[u * PLACES + place];
                if (partLikeness(sort, x, y) == MAYBE) {
                    return chosen[x] == NONE ? x : y;
                }
            }
            return NONE;
        }
    }
}
