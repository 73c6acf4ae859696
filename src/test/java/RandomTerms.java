import java.util.ArrayList;
import java.util.List;
import java.util.Random;

/** The terms that a random run has made so far, by sort, and random terms and literals out of them. */
final class RandomTerms {
    private final Random random;
    private final BothAsked both;
    private final List<List<Integer>> ofSort = List.of(new ArrayList<>(), new ArrayList<>(), new ArrayList<>());

    RandomTerms(Random random, BothAsked both) {
        this.random = random;
        this.both = both;
        for (int t = 0; t < 7; t++) {
            ofSort.get(t < 3 ? 0 : t < 5 ? 1 : 2).add(t);
        }
    }

    int count() {
        return ofSort.get(0).size() + ofSort.get(1).size() + ofSort.get(2).size();
    }

    List<Integer> all(int sort) {
        return ofSort.get(sort);
    }

    int any(int sort) {
        List<Integer> terms = ofSort.get(sort);
        return terms.get(random.nextInt(terms.size()));
    }

    /** A select or store of fitting terms, perhaps one that was made before. */
    void make() {
        if (random.nextInt(5) < 3) {
            store(any(2), any(0), any(1));
        } else {
            select(any(2), any(0));
        }
    }

    void select(int a, int i) {
        note(both.select(a, i), 1);
    }

    void store(int a, int i, int e) {
        note(both.store(a, i, e), 2);
    }

    private void note(String made, int sort) {
        if (made.equals(Answer.of(count()))) {
            ofSort.get(sort).add(count());
        }
    }

    void draftLiteral(int sameOfTen) {
        int kind = random.nextInt(6);
        int sort = kind == 0 ? 0 : kind < 4 ? 1 : 2;
        both.literal(any(sort), any(sort), random.nextInt(10) < sameOfTen);
    }
}
