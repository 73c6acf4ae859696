/** Makes each call of the object and of the model, counting calls, and checks that the answers are alike. */
final class BothAsked {
    /** "An object is used for at most 512 calls after it has been made". */
    static final int MOST_CALLS = 512;

    private final ArrayClaims x = new ArrayClaims();
    private final Model model;
    private final Checks checks;
    private final String name;
    private int calls = 0;

    BothAsked(String name, boolean elsewhereInFull, Checks checks) {
        this.name = name;
        this.checks = checks;
        model = new Model(elsewhereInFull);
    }

    int callsLeft() {
        return MOST_CALLS - calls;
    }

    private String compare(String call, String want, String got) {
        calls++;
        checks.dueAnswer(name + ", call " + calls + ": " + call, want, got);
        return want;
    }

    String select(int a, int i) {
        return compare("select(" + a + ", " + i + ")", model.select(a, i), Answer.to(() -> x.select(a, i)));
    }

    String store(int a, int i, int e) {
        return compare("store(" + a + ", " + i + ", " + e + ")", model.store(a, i, e),
                Answer.to(() -> x.store(a, i, e)));
    }

    String terms() {
        return compare("terms()", model.terms(), Answer.to(x::terms));
    }

    String sort(int term) {
        return compare("sort(" + term + ")", model.sort(term), Answer.to(() -> x.sort(term)));
    }

    String literal(int t, int u, boolean same) {
        return compare("literal(" + t + ", " + u + ", " + same + ")", model.literal(t, u, same),
                Answer.to(() -> x.literal(t, u, same)));
    }

    String draft() {
        return compare("draft()", model.draft(), Answer.to(x::draft));
    }

    void clear() {
        calls++;
        model.clear();
        x.clear();
    }

    String claim() {
        return compare("claim()", model.claim(), Answer.to(x::claim));
    }

    String keep(int n) {
        return compare("keep(" + n + ")", model.keep(n), Answer.to(() -> x.keep(n)));
    }

    String claims() {
        return compare("claims()", model.claims(), Answer.to(x::claims));
    }

    String can() {
        return compare("can()", model.can(), Answer.to(x::can));
    }

    String first() {
        return compare("first()", model.first(), Answer.to(x::first));
    }

    String without(int claim) {
        return compare("without(" + claim + ")", model.without(claim), Answer.to(() -> x.without(claim)));
    }

    String same(int t, int u) {
        return compare("same(" + t + ", " + u + ")", model.same(t, u), Answer.to(() -> x.same(t, u)));
    }

    String follows() {
        return compare("follows()", model.follows(), Answer.to(x::follows));
    }

    String apart(boolean fewest) {
        return compare("apart(" + fewest + ")", model.apart(fewest), Answer.to(() -> x.apart(fewest)));
    }
}
