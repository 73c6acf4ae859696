/** The run of calls that README.md shows, with the answers that it tells. */
public final class ReadmeTest {
    private static void theExample(Checks c) {
        ArrayClaims x = new ArrayClaims();
        int written = x.store(5, 0, 3);
        int read = x.select(written, 1);
        int before = x.select(5, 1);

        x.literal(0, 1, false);
        c.due("claim()", 0, x::claim);
        c.due("same(read, before)", ArrayClaims.ALWAYS, () -> x.same(read, before));

        x.literal(read, before, false);
        c.due("follows()", false, x::follows);
        c.due("claim()", 1, x::claim);
        c.due("can()", false, x::can);
        c.due("first()", 1, x::first);
        c.due("without(0)", true, () -> x.without(0));
        c.due("keep(1)", true, () -> x.keep(1));
        c.due("apart(true)", 2, () -> x.apart(true));
    }

    public static void main(String[] args) {
        Checks c = new Checks();
        theExample(c);
        c.end();
    }
}
