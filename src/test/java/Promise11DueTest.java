/** Promise 11: due. */
public final class Promise11DueTest {
    public static void main(String[] args) {
        Check.test("its tick (0), slot (1), letter (2), how many ticks it lasts (3)", Promise11DueTest::ordinary);
        Check.test("how many ticks it lasts: the tick of its end less its own", Promise11DueTest::lasts);
        Check.test("BAD when there is none such", Promise11DueTest::noneSuch);
        Check.test("BAD when nothing is due", Promise11DueTest::nothingDue);
        Check.test("BAD for another what", Promise11DueTest::anotherWhat);
        Check.test("the last of 100 onsets", Promise11DueTest::lastOfMany);
        Check.test("only what ends, starts or moves the player changes what is due", Promise11DueTest::stays);
        Check.end();
    }

    private static CyclePatterns threeDue() {
        CyclePatterns x = Check.with("~", "[abc]", "S2z");
        x.play(6, 1, 1);
        Check.due("advance", x.advance(500), 3);
        return x;
    }

    private static void ordinary() {
        CyclePatterns x = threeDue();
        int[][] want = {{0, 1, 'a', 333}, {0, 2, 'z', 2000}, {333, 1, 'b', 333}};
        for (int i = 0; i < want.length; i++) {
            for (int what = 0; what < 4; what++) {
                Check.due("due(" + i + ", " + what + ")", x.due(i, what), want[i][what]);
            }
        }
    }

    private static void lasts() {
        CyclePatterns x = threeDue();
        Check.due("advance", x.advance(500), 1);
        Check.due("a third that lasts longer", Check.dueOnsets(x), "666 1 c 334");
        CyclePatterns y = Check.with("F9F9F9a", "S9S8S7S9a", "a");
        y.play(1, 20, 1);
        y.advance(1);
        Check.due("less than a tick", y.due(0, 3), 0);
        y.play(2, 1, 20);
        y.advance(1);
        Check.due("the longest", y.due(0, 3), 4536 * 20000);
        y.play(4, 20, 19);
        y.advance(500);
        Check.due("47 or 48 ticks", y.due(0, 3), 950);
    }

    private static void noneSuch() {
        CyclePatterns x = threeDue();
        Check.due("the first one", x.due(0, 2), 'a');
        Check.due("the last one", x.due(2, 2), 'b');
        for (int i : new int[] {-1, 3, 4, 99, 100, 101, Integer.MIN_VALUE, Integer.MAX_VALUE}) {
            for (int what = 0; what < 4; what++) {
                Check.bad("due(" + i + ", " + what + ")", x.due(i, what));
            }
        }
    }

    private static void nothingDue() {
        CyclePatterns x = Check.with("a", "F9F9F9a");
        allBad("of a new object", x);
        x.play(1, 1, 1);
        allBad("before any tick", x);
        x.advance(1);
        x.advance(1);
        allBad("when none came", x);
        x.play(1, 1, 1);
        x.advance(1);
        x.play(1, 1, 1);
        allBad("behind play", x);
        x.advance(1);
        x.define(5);
        allBad("behind define", x);
        x.play(2, 20, 1);
        x.advance(1);
        x.advance(500);
        allBad("behind MANY", x);
    }

    private static void allBad(String when, CyclePatterns x) {
        for (int what = -1; what <= 4; what++) {
            Check.bad("due(0, " + what + ") " + when, x.due(0, what));
            Check.bad("due(-1, " + what + ") " + when, x.due(-1, what));
        }
    }

    private static void anotherWhat() {
        CyclePatterns x = threeDue();
        for (int what : new int[] {-1, 4, 5, -4, 256, Integer.MIN_VALUE, Integer.MAX_VALUE}) {
            for (int i = -1; i <= 3; i++) {
                Check.bad("due(" + i + ", " + what + ")", x.due(i, what));
            }
        }
    }

    private static void lastOfMany() {
        CyclePatterns x = Check.with("F5F5F4<ab>");
        x.play(1, 2, 1);
        Check.due("advance", x.advance(500), 100);
        Check.due("tick", x.due(99, 0), 495);
        Check.due("slot", x.due(99, 1), 0);
        Check.due("letter", x.due(99, 2), 'b');
        Check.due("lasts", x.due(99, 3), 5);
        Check.bad("one more", x.due(100, 0));
        Check.bad("another what", x.due(99, 4));
    }

    private static void stays() {
        CyclePatterns x = threeDue();
        String due = Check.dueOnsets(x);
        x.type('a', 1);
        x.define(8);
        x.query(1, 0, 1, 1);
        x.differ(0, 1);
        x.play(0, 1, 1);
        x.advance(0);
        x.due(0, 4);
        x.due(9, 0);
        x.tick();
        Check.due("due", Check.dueOnsets(x), due);
    }
}
