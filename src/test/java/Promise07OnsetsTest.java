/** Promise 7: onsets. */
public final class Promise07OnsetsTest {
    public static void main(String[] args) {
        CyclePatterns x = Check.with("a", "S3a", "[S3aL12b]", "{aaS2b}", "RS2a", "F9F9F9a");
        counts(x, 0, 0, 4, 1, 4);
        counts(x, 0, 1, 8, 2, 3);
        counts(x, 0, 1, 2, 4, 0);
        counts(x, 1, 0, 3, 1, 1);
        counts(x, 1, 1, 4, 1, 1);
        counts(x, 1, 1, 3, 1, 0);
        counts(x, 1, -3, 0, 1, 1);
        counts(x, 2, 0, 1, 1, 2);
        counts(x, 2, 1, 3, 1, 2);
        counts(x, 3, 0, 2, 1, 5);
        counts(x, 4, 0, 1, 1, 0);
        counts(x, 4, 1, 2, 1, 1);
        x.query(0, 0, 4, 1);
        x.query(0, 0, 0, 1);
        Check.due("a BAD query leaves them", x.onsets(), 4);
        Check.due("MANY", x.query(5, 0, 1, 1), CyclePatterns.MANY);
        Check.due("MANY finds none", x.onsets(), 0);
        Check.end();
    }

    private static void counts(CyclePatterns x, int slot, int a, int b, int d, int want) {
        x.query(slot, a, b, d);
        Check.due("onsets of slot " + slot + " from " + a + "/" + d + " to " + b + "/" + d, x.onsets(), want);
    }
}
