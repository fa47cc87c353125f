/** Promise 8: differ. */
public final class Promise08DifferTest {
    public static void main(String[] args) {
        compares("a", "a", -1);
        compares("F3S3[abc]", "[abc]", -1);
        compares("RR[ab<cd>]", "[ab<cd>]", -1);
        compares("{ab}", "{ba}", -1);
        compares("L11<ab>", "<ba>", -1);
        compares("[S2a]", "S2a", -1);
        compares("E449a", "F4a", -1);
        compares("E449a", "[aaaa]", -1);
        compares("~", "E050a", -1);
        compares("a", "b", 0);
        compares("a", "~", 0);
        compares("a", "{aa}", 0);
        compares("a", "[aa]", 0);
        compares("S2a", "a", 0);
        compares("S2a", "L11S2a", 0);
        compares("L12a", "a", 0);
        compares("<ab>", "a", 1);
        compares("V9ab", "<abbbbbbbb>", -1);
        compares("V9a<bbbc>", "V9ab", 3);
        compares("<a<a<a<ab>>>>", "a", 15);
        compares("<a<a<a<a<ab>>>>>", "a", -1);
        wrongSlots();
        many();
        Check.end();
    }

    private static void compares(String one, String other, int want) {
        CyclePatterns x = Check.with(one, other);
        Check.due("differ of " + one + " and " + other, x.differ(0, 1), want);
        Check.due("differ of " + other + " and " + one, x.differ(1, 0), want);
        Check.due("differ of " + one + " and itself", x.differ(0, 0), -1);
    }

    private static void wrongSlots() {
        CyclePatterns x = Check.with("a");
        int[][] bad = {{0, 8}, {8, 0}, {-1, 0}, {0, -1}, {Integer.MIN_VALUE, 0}, {0, Integer.MAX_VALUE}, {9, 9}};
        for (int[] b : bad) {
            Check.due("differ(" + b[0] + ", " + b[1] + ")", x.differ(b[0], b[1]), -9);
        }
        Check.due("the last slot", x.differ(0, 7), 0);
    }

    private static void many() {
        CyclePatterns x = Check.with("F5F5F8a", "{F5F5F8aa}", "a", "V8F9F9F9ba", "<aaaaab>", "F9F9F9b");
        Check.due("200 parts in each cycle", x.differ(0, 0), -1);
        Check.due("201 parts", x.differ(1, 1), CyclePatterns.MANY);
        Check.due("too many in the other one", x.differ(0, 1), CyclePatterns.MANY);
        Check.due("too many in the first one", x.differ(1, 2), CyclePatterns.MANY);
        Check.due("too many in a cycle where they differ", x.differ(2, 3), CyclePatterns.MANY);
        Check.define(x, 6, "L11V8F9F9F9ba");
        Check.due("too many in cycle 1", x.differ(6, 2), CyclePatterns.MANY);
        Check.due("too many of the other one in cycle 0", x.differ(6, 5), CyclePatterns.MANY);
        Check.define(x, 7, "b");
        Check.due("a difference before too many", x.differ(6, 7), 0);
        Check.define(x, 6, "L61V8F9F9F9ba");
        Check.due("a difference in cycle 5 before too many in 6", x.differ(6, 4), 5);
    }
}
