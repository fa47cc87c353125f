/** Promise 4: query. What each kind of pattern has, and the order, stand in the tests of the terms. */
public final class Promise04QueryTest {
    private static final int[] SPLITS = {1, 2, 7, 49, 50};

    public static void main(String[] args) {
        Check.test("the parts in the span from a / d to b / d are found: how many", Promise04QueryTest::found);
        Check.test("a newer query takes the place of what was found", Promise04QueryTest::foundAnew);
        Check.test("BAD when there is no such slot", Promise04QueryTest::badSlots);
        Check.test("BAD when d is not 1 .. 50", Promise04QueryTest::badSplits);
        Check.test("BAD when a is less than -1000 d", Promise04QueryTest::tooLow);
        Check.test("BAD when b is more than 1000 d", Promise04QueryTest::tooHigh);
        Check.test("BAD when a is not less than b", Promise04QueryTest::noSpan);
        Check.test("BAD when b is more than a + 16 d", Promise04QueryTest::tooLong);
        Check.test("BAD for numbers that make sums and products overflow", Promise04QueryTest::overflows);
        Check.test("BAD leaves what was found", Promise04QueryTest::badLeavesIt);
        Check.test("MANY for more than 200 parts", Promise04QueryTest::many);
        Check.test("MANY: nothing is found then", Promise04QueryTest::manyFindsNothing);
        Check.test("parts of one whole count one by one, rests not at all", Promise04QueryTest::whatCounts);
        Check.test("wholes far longer than the span are told exactly", Promise04QueryTest::longWholes);
        Check.test("the finest grain and d, at both ends of time", Promise04QueryTest::finest);
        Check.test("query ends nothing that plays", Promise04QueryTest::playsOn);
        Check.end();
    }

    private static void answers(CyclePatterns x, int slot, int a, int b, int d, int want) {
        Check.due("query(" + slot + ", " + a + ", " + b + ", " + d + ")", x.query(slot, a, b, d), want);
    }

    private static void bad(int slot, int a, int b, int d) {
        answers(Check.with("a"), slot, a, b, d, CyclePatterns.BAD);
    }

    private static void found() {
        CyclePatterns x = Check.with("a", "[ab]");
        answers(x, 0, 0, 1, 1, 1);
        answers(x, 0, 0, 3, 2, 2);
        answers(x, 0, 7, 8, 50, 1);
        Check.due("a narrow span", Check.found(x), "a 7..8 of 0..50");
        answers(x, 1, -1, 2, 3, 3);
        Check.due("across 0", Check.found(x), "b -2..0 of -3..0, a 0..3 of 0..3, b 3..4 of 3..6");
        answers(x, 2, 0, 16, 1, 0);
    }

    private static void foundAnew() {
        CyclePatterns x = Check.with("[abc]", "d");
        answers(x, 0, 0, 1, 1, 3);
        answers(x, 1, 0, 1, 1, 1);
        Check.due("only the newer one", Check.found(x), "d 0..1 of 0..1");
        answers(x, 2, 0, 1, 1, 0);
        Check.due("or nothing", Check.found(x), "");
        Check.bad("part", x.part(0, 0));
    }

    private static void badSlots() {
        for (int slot : new int[] {-1, 8, 9, 255, Integer.MIN_VALUE, Integer.MAX_VALUE}) {
            bad(slot, 0, 1, 1);
        }
        CyclePatterns x = Check.with("a");
        Check.define(x, 7, "F2a");
        answers(x, 0, 0, 1, 1, 1);
        answers(x, 7, 0, 1, 1, 2);
    }

    private static void badSplits() {
        for (int d : new int[] {0, 51, -1, -50, 100, Integer.MIN_VALUE, Integer.MAX_VALUE}) {
            bad(0, 0, 1, d);
        }
        bad(0, -1, 0, 0);
        bad(0, 0, 0, 0);
        for (int d = 1; d <= 50; d++) {
            answers(Check.with("a"), 0, 0, d, d, 1);
        }
    }

    private static void tooLow() {
        for (int d : SPLITS) {
            CyclePatterns x = Check.with("a");
            answers(x, 0, -1000 * d, -1000 * d + 1, d, 1);
            Check.due("its beginning", x.part(0, 0), -1000 * d);
            answers(x, 0, -1000 * d, -984 * d, d, 16);
            bad(0, -1000 * d - 1, -1000 * d + 1, d);
            bad(0, -1000 * d - 1, -1000 * d, d);
            bad(0, -1000 * d - 2, -1000 * d - 1, d);
        }
    }

    private static void tooHigh() {
        for (int d : SPLITS) {
            CyclePatterns x = Check.with("a");
            answers(x, 0, 1000 * d - 1, 1000 * d, d, 1);
            Check.due("its end", x.part(0, 1), 1000 * d);
            answers(x, 0, 984 * d, 1000 * d, d, 16);
            bad(0, 1000 * d - 1, 1000 * d + 1, d);
            bad(0, 1000 * d, 1000 * d + 1, d);
            bad(0, 1000 * d + 1, 1000 * d + 2, d);
        }
    }

    private static void noSpan() {
        for (int d : SPLITS) {
            for (int a : new int[] {-1000 * d, -1, 0, 1, 1000 * d}) {
                bad(0, a, a, d);
            }
            bad(0, 1, 0, d);
            bad(0, 0, -1, d);
            bad(0, 1000 * d, -1000 * d, d);
            answers(Check.with("a"), 0, -1, 0, d, 1);
            answers(Check.with("a"), 0, 0, 1, d, 1);
        }
    }

    private static void tooLong() {
        for (int d : SPLITS) {
            for (int a : new int[] {-1000 * d, -16 * d, -3 * d, 0, 983 * d}) {
                answers(Check.with("a"), 0, a, a + 16 * d, d, 16);
                bad(0, a, a + 16 * d + 1, d);
            }
            answers(Check.with("a"), 0, 1, 1 + 16 * d, d, d == 1 ? 16 : 17);
            bad(0, 1, 2 + 16 * d, d);
            bad(0, -1000 * d, 1000 * d, d);
        }
    }

    private static void overflows() {
        int[] far = {Integer.MIN_VALUE, Integer.MIN_VALUE + 1, Integer.MAX_VALUE, Integer.MAX_VALUE - 1};
        for (int one : far) {
            for (int d : new int[] {1, 50, Integer.MIN_VALUE, Integer.MAX_VALUE, 0}) {
                bad(0, one, 0, d);
                bad(0, 0, one, d);
                for (int other : far) {
                    bad(0, one, other, d);
                }
            }
        }
    }

    private static void badLeavesIt() {
        CyclePatterns x = Check.with("[ab]");
        answers(x, 0, 0, 1, 3, 1);
        int[][] calls = {{-1, 0, 1, 1}, {8, 0, 1, 1}, {0, 0, 1, 0}, {0, 0, 1, 51}, {0, -1001, -1000, 1},
            {0, 1000, 1001, 1}, {0, 1, 1, 1}, {0, 0, 17, 1}};
        for (int[] call : calls) {
            answers(x, call[0], call[1], call[2], call[3], CyclePatterns.BAD);
            Check.due("what was found", Check.found(x), "a 0..2 of 0..3");
            Check.due("onsets", x.onsets(), 1);
            Check.due("unit", x.unit(), 6);
        }
    }

    private static void many() {
        CyclePatterns x = Check.with("F5[aaaaa]", "F5F5F8a", "{F5F5F8aa}", "{F9F9aF5F9b}");
        answers(x, 0, 0, 8, 1, 200);
        Check.due("the last of them", x.part(199, 1), 200);
        Check.bad("no other", x.part(200, 1));
        answers(x, 0, 0, 201, 25, CyclePatterns.MANY);
        answers(x, 0, -1, 200, 25, CyclePatterns.MANY);
        answers(x, 1, 0, 1, 1, 200);
        answers(x, 1, 0, 2, 1, CyclePatterns.MANY);
        answers(x, 1, 0, 16, 1, CyclePatterns.MANY);
        answers(x, 2, 0, 1, 1, CyclePatterns.MANY);
        answers(x, 2, 0, 1, 2, 101);
        answers(x, 3, 0, 1, 1, 126);
        answers(x, 3, 0, 50, 49, 129);
        answers(x, 3, 0, 2, 1, CyclePatterns.MANY);
    }

    private static void manyFindsNothing() {
        CyclePatterns x = Check.with("a", "F9F9F9a");
        answers(x, 0, 0, 3, 1, 3);
        answers(x, 1, 0, 1, 1, CyclePatterns.MANY);
        for (int what = 0; what < 5; what++) {
            Check.bad("part(0, " + what + ")", x.part(0, what));
        }
        Check.bad("the last part that there would be room for", x.part(199, 0));
        Check.due("onsets", x.onsets(), 0);
        answers(x, 0, 0, 2, 1, 2);
        Check.due("then others are found", Check.found(x), "a 0..1 of 0..1, a 1..2 of 1..2");
    }

    private static void whatCounts() {
        CyclePatterns x = Check.with("F4F9[S9S9a]", "F9F9F9F6~", "F9F9F9F6E050a", "F9F9F9F6V1~a");
        answers(x, 0, 0, 5, 1, 180);
        answers(x, 0, 0, 6, 1, CyclePatterns.MANY);
        answers(x, 1, 0, 16, 1, 0);
        answers(x, 2, 0, 16, 1, 0);
        answers(x, 3, 0, 16, 1, 0);
    }

    private static void longWholes() {
        CyclePatterns x = Check.with("S9S8S7S9a", "<~<~<~<~a>>>>");
        answers(x, 0, 49200, 50000, 50, 1);
        Check.due("begins", x.part(0, 0), 984 * 50 * 4536);
        Check.due("ends", x.part(0, 1), 1000 * 50 * 4536);
        Check.due("its whole begins", x.part(0, 2), 0);
        Check.due("its whole ends", x.part(0, 3), 4536 * 50 * 4536);
        answers(x, 0, -1, 1, 50, 2);
        Check.due("below 0 its whole begins", x.part(0, 2), -4536 * 50 * 4536);
        answers(x, 1, -16, 0, 1, 1);
        Check.due("one cycle of sixteen", Check.found(x), "a -1..0 of -1..0");
    }

    private static void finest() {
        CyclePatterns x = Check.with("S7S8S9S5S2a", "L11S7S8S9S5S2a", "F7F8F9F5F2a");
        answers(x, 0, 999 * 50, 1000 * 50, 50, 1);
        Check.due("ends", x.part(0, 1), 1000 * 252000);
        Check.due("its whole ends", x.part(0, 3), 5040 * 252000);
        answers(x, 0, -1000 * 50, -999 * 50, 50, 1);
        Check.due("begins", x.part(0, 0), -1000 * 252000);
        Check.due("its whole begins", x.part(0, 2), -5040 * 252000);
        answers(x, 1, -1000 * 50, -999 * 50, 50, 1);
        Check.due("its whole begins", x.part(0, 2), -5039 * 252000);
        answers(x, 2, 1000 * 50 - 1, 1000 * 50, 50, 101);
        Check.due("the first of them begins", x.part(0, 0), 1000 * 252000 - 5040);
        Check.due("its whole begins", x.part(0, 2), 1000 * 252000 - 101 * 50);
    }

    private static void playsOn() {
        CyclePatterns x = Check.with("a");
        x.play(1, 1, 1);
        x.advance(10);
        x.query(0, 0, 1, 1);
        x.query(0, 1, 1, 1);
        Check.due("tick", x.tick(), 10);
        Check.due("due", Check.dueOnsets(x), "0 0 a 1000");
        Check.due("advance", x.advance(10), 0);
    }
}
