/** Promise 7: onsets. */
public final class Promise07OnsetsTest {
    public static void main(String[] args) {
        Check.test("how many begin where their wholes begin", Promise07OnsetsTest::ordinary);
        Check.test("0 when nothing was found", Promise07OnsetsTest::nothingFound);
        Check.test("wholes that begin before the span do not count", Promise07OnsetsTest::beforeTheSpan);
        Check.test("wholes that begin outside what is cut do not count", Promise07OnsetsTest::outsideTheCut);
        Check.test("a whole that ends outside the span or what is cut counts", Promise07OnsetsTest::endsOutside);
        Check.test("200 of them", Promise07OnsetsTest::twoHundred);
        Check.test("of what was found, also behind a BAD query", Promise07OnsetsTest::behindABadOne);
        Check.end();
    }

    /** The onsets of a text's pattern from a / d to b / d. */
    private static void counts(String text, int a, int b, int d, int want) {
        CyclePatterns x = Check.with(text);
        x.query(0, a, b, d);
        Check.due("onsets of " + text + " from " + a + "/" + d + " to " + b + "/" + d, x.onsets(), want);
    }

    private static void ordinary() {
        counts("a", 0, 1, 1, 1);
        counts("a", -2, 2, 1, 4);
        counts("[ab~c]", 0, 1, 1, 3);
        counts("{aaS2b}", 0, 2, 1, 5);
        counts("L12a", 0, 4, 1, 4);
    }

    private static void nothingFound() {
        Check.due("before any query", Check.with("a").onsets(), 0);
        CyclePatterns x = Check.with("a", "~", "F9F9F9a");
        x.query(0, 0, 2, 1);
        x.query(1, 0, 2, 1);
        Check.due("behind a query of ~", x.onsets(), 0);
        x.query(0, 0, 2, 1);
        x.query(2, 0, 1, 1);
        Check.due("behind MANY", x.onsets(), 0);
        CyclePatterns y = Check.with("a");
        y.query(0, 0, 0, 1);
        Check.due("behind BAD alone", y.onsets(), 0);
    }

    private static void beforeTheSpan() {
        counts("a", 0, 50, 50, 1);
        counts("a", 1, 50, 50, 0);
        counts("a", 1, 51, 50, 1);
        counts("a", -1, 50, 50, 1);
        counts("S3a", 0, 3, 1, 1);
        counts("S3a", 1, 3, 1, 0);
        counts("S3a", 1, 4, 1, 1);
        counts("S3a", -3, 0, 1, 1);
        counts("S3a", -2, 0, 1, 0);
        counts("L12a", 0, 1, 2, 0);
        counts("L12a", 1, 2, 2, 1);
    }

    private static void outsideTheCut() {
        counts("[S2a]", 0, 1, 1, 1);
        counts("[S2a]", 1, 2, 1, 0);
        counts("[S2a]", 0, 2, 1, 1);
        counts("[~S2a]", 1, 2, 1, 0);
        counts("<S2a>", 1, 2, 1, 0);
        counts("<~S2a>", 2, 4, 1, 0);
        counts("RS2a", 0, 1, 1, 0);
        counts("RS2a", 1, 2, 1, 1);
        counts("V2~S2a", 0, 16, 1, 0);
        counts("V1S2ab", 1, 2, 1, 0);
        counts("E110S2a", 1, 2, 1, 0);
        counts("[S3aL12b]", 0, 1, 1, 2);
        counts("[S3aL12b]", 1, 3, 1, 2);
        counts("RL12a", 0, 1, 1, 1);
    }

    private static void endsOutside() {
        counts("a", 0, 1, 50, 1);
        counts("S9a", 0, 1, 50, 1);
        counts("[S9a]", 0, 1, 50, 1);
        counts("RS2a", 3, 4, 1, 1);
    }

    private static void twoHundred() {
        counts("F5F5F8a", 0, 1, 1, 200);
        counts("F5F5F8a", 1, 51, 50, 200);
        counts("F5F5F8a", 1, 3, 3, 133);
    }

    private static void behindABadOne() {
        CyclePatterns x = Check.with("a");
        x.query(0, 0, 4, 1);
        x.query(0, 0, 0, 1);
        x.query(8, 0, 1, 1);
        Check.due("onsets", x.onsets(), 4);
        Check.define(x, 0, "~");
        Check.due("behind define", x.onsets(), 4);
    }
}
