/** Promise 6: part. */
public final class Promise06PartTest {
    private static final int[] OTHER_WHATS = {-1, 5, 6, -5, 256, Integer.MIN_VALUE, Integer.MAX_VALUE};

    public static void main(String[] args) {
        Check.test("begins (0), ends (1), whole begins (2), ends (3), letter (4)", Promise06PartTest::ordinary);
        Check.test("BAD when there is none such", Promise06PartTest::noneSuch);
        Check.test("BAD when nothing was found", Promise06PartTest::nothingFound);
        Check.test("BAD for another what", Promise06PartTest::anotherWhat);
        Check.test("the last of 200 parts", Promise06PartTest::lastOfMany);
        Check.test("no other call changes what was found", Promise06PartTest::stays);
        Check.end();
    }

    private static CyclePatterns fiveParts() {
        CyclePatterns x = Check.with("[aL12b]", "~");
        Check.due("found", x.query(0, -3, 3, 4), 5);
        Check.due("unit", x.unit(), 16);
        return x;
    }

    private static void ordinary() {
        CyclePatterns x = fiveParts();
        int[][] want = {
            {-12, -8, -16, -8, 'a'}, {-8, -4, -12, -4, 'b'}, {-4, 0, -4, 4, 'b'}, {0, 8, 0, 8, 'a'}, {8, 12, 4, 12, 'b'},
        };
        for (int i = 0; i < want.length; i++) {
            for (int what = 0; what < 5; what++) {
                Check.due("part(" + i + ", " + what + ")", x.part(i, what), want[i][what]);
            }
        }
    }

    private static void noneSuch() {
        CyclePatterns x = fiveParts();
        Check.due("the first one", x.part(0, 4), 'a');
        Check.due("the last one", x.part(4, 4), 'b');
        for (int i : new int[] {-1, 5, 6, 199, 200, 201, Integer.MIN_VALUE, Integer.MAX_VALUE}) {
            for (int what = 0; what < 5; what++) {
                Check.bad("part(" + i + ", " + what + ")", x.part(i, what));
            }
        }
    }

    private static void nothingFound() {
        CyclePatterns x = Check.with("a", "~", "F9F9F9a");
        allBad("before any query", x);
        x.query(0, 0, 2, 1);
        x.query(1, 0, 1, 1);
        allBad("behind a query of ~", x);
        x.query(0, 0, 2, 1);
        x.query(2, 0, 1, 1);
        allBad("behind MANY", x);
    }

    private static void allBad(String when, CyclePatterns x) {
        for (int what = -1; what <= 5; what++) {
            Check.bad("part(0, " + what + ") " + when, x.part(0, what));
            Check.bad("part(-1, " + what + ") " + when, x.part(-1, what));
        }
    }

    private static void anotherWhat() {
        CyclePatterns x = fiveParts();
        for (int what : OTHER_WHATS) {
            for (int i = -1; i <= 5; i++) {
                Check.bad("part(" + i + ", " + what + ")", x.part(i, what));
            }
        }
    }

    private static void lastOfMany() {
        CyclePatterns x = Check.with("F5F5F8<ab>");
        Check.due("found", x.query(0, 0, 1, 1), 200);
        Check.due("begins", x.part(199, 0), 199);
        Check.due("ends", x.part(199, 1), 200);
        Check.due("letter", x.part(199, 4), 'b');
        Check.bad("one more", x.part(200, 0));
        Check.bad("another what", x.part(199, 5));
    }

    private static void stays() {
        CyclePatterns x = fiveParts();
        String found = Check.found(x);
        x.query(0, 1, 1, 1);
        Check.due("behind a BAD query", Check.found(x), found);
        x.type('z', 1);
        x.define(0);
        Check.due("behind define", Check.found(x), found);
        x.differ(0, 1);
        Check.due("behind differ", Check.found(x), found);
        x.play(1, 1, 1);
        x.advance(1);
        Check.due("behind advance", Check.found(x), found);
        x.part(0, 5);
        x.part(9, 0);
        x.onsets();
        Check.due("behind part and onsets", Check.found(x), found);
    }
}
