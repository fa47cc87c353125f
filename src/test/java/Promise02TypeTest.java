/** Promise 2: type. */
public final class Promise02TypeTest {
    private static final int[] WRONG_SIGNS = {32, 127, 0, 31, 128, 160, 225, 255};

    public static void main(String[] args) {
        Check.test("the lowest n bytes, the highest of them first", Promise02TypeTest::order);
        Check.test("bytes above the lowest n do not count", Promise02TypeTest::bytesAbove);
        Check.test("they come behind the buffer: how many it has", Promise02TypeTest::howMany);
        Check.test("BAD when n is not 1 .. 8", Promise02TypeTest::badCounts);
        Check.test("BAD when one is not 33 .. 126", Promise02TypeTest::badSigns);
        Check.test("BAD leaves the buffer as it was", Promise02TypeTest::badLeavesIt);
        Check.test("FULL when there would be more than 40", Promise02TypeTest::full);
        Check.test("FULL leaves the buffer as it was", Promise02TypeTest::fullLeavesIt);
        Check.test("BAD also where it would be FULL", Promise02TypeTest::badBeforeFull);
        Check.test("typing ends nothing that plays", Promise02TypeTest::playsOn);
        Check.end();
    }

    private static void order() {
        CyclePatterns x = new CyclePatterns();
        Check.due("eight characters", x.type(Check.packed("[abcdefg"), 8), 8);
        Check.due("two more", x.type(Check.packed("h]"), 2), 10);
        Check.due("they are a pattern", x.define(0), 8);
        x.query(0, 0, 1, 1);
        for (int i = 0; i < 8; i++) {
            Check.due("letter " + i, x.part(i, 4), 'a' + i);
        }
    }

    private static void bytesAbove() {
        for (int n = 1; n < 8; n++) {
            for (long above : new long[] {0, 32, 127, 255, 'b', -1}) {
                CyclePatterns x = new CyclePatterns();
                String text = "R".repeat(n - 1) + "a";
                Check.due("type of " + n, x.type(above << (8 * n) | Check.packed(text), n), n);
                Check.due("define", x.define(0), 1);
            }
        }
    }

    private static void howMany() {
        CyclePatterns x = new CyclePatterns();
        int sum = 0;
        for (int n = 1; n <= 8; n++) {
            sum += n;
            Check.due("type of " + n, x.type(Check.packed("RRRRRRRR"), n), sum);
        }
        Check.due("40 of them", x.type(Check.packed("RRRa"), 4), 40);
        Check.due("all count", x.define(0), 1);
    }

    private static void badCounts() {
        for (int n : new int[] {0, 9, -1, -8, 10, 16, 64, 257, Integer.MIN_VALUE, Integer.MAX_VALUE}) {
            Check.bad("n = " + n, new CyclePatterns().type(Check.packed("aaaaaaaa"), n));
        }
        Check.due("n = 1", new CyclePatterns().type(Check.packed("aaaaaaaa"), 1), 1);
        Check.due("n = 8", new CyclePatterns().type(Check.packed("aaaaaaaa"), 8), 8);
    }

    private static void badSigns() {
        for (int n = 1; n <= 8; n++) {
            for (int place = 0; place < n; place++) {
                for (int sign : WRONG_SIGNS) {
                    Check.bad("byte " + place + " of " + n + " is " + sign, typeWith(sign, place, n));
                }
                for (int sign : new int[] {33, 126}) {
                    Check.due("byte " + place + " of " + n + " is " + sign, typeWith(sign, place, n), n);
                }
            }
        }
    }

    private static int typeWith(long sign, int place, int n) {
        long others = Check.packed("aaaaaaaa") & ~(255L << (8 * place));
        return new CyclePatterns().type(others | sign << (8 * place), n);
    }

    private static void badLeavesIt() {
        CyclePatterns x = new CyclePatterns();
        x.type(Check.packed("[a"), 2);
        Check.bad("a wrong sign behind others", x.type('b' << 16 | 'c' << 8 | ' ', 3));
        Check.bad("a wrong sign before others", x.type(' ' << 16 | 'c' << 8 | 'b', 3));
        Check.bad("n = 0", x.type('b', 0));
        Check.bad("n = 9", x.type(Check.packed("bbbbbbbb"), 9));
        Check.due("]", x.type(']', 1), 3);
        Check.due("[a]", x.define(0), 1);
    }

    private static void full() {
        for (int n = 1; n <= 8; n++) {
            CyclePatterns x = new CyclePatterns();
            Check.due("as many as leave room for " + n, Check.type(x, "a".repeat(40 - n)), 40 - n);
            Check.due("then " + n, x.type(Check.packed("aaaaaaaa"), n), 40);
            CyclePatterns y = new CyclePatterns();
            Check.due("one more", Check.type(y, "a".repeat(41 - n)), 41 - n);
            Check.due("then " + n, y.type(Check.packed("aaaaaaaa"), n), CyclePatterns.FULL);
        }
    }

    private static void fullLeavesIt() {
        CyclePatterns x = new CyclePatterns();
        Check.type(x, "R".repeat(38));
        Check.due("three more", x.type(Check.packed("aaa"), 3), CyclePatterns.FULL);
        Check.due("one more", x.type('R', 1), 39);
        Check.due("two more", x.type(Check.packed("aa"), 2), CyclePatterns.FULL);
        Check.due("the last one", x.type('a', 1), 40);
        Check.due("yet one more", x.type('a', 1), CyclePatterns.FULL);
        Check.due("what was there is there", x.define(0), 1);
        Check.due("and there is room again", x.type('a', 1), 1);
    }

    private static void badBeforeFull() {
        CyclePatterns x = new CyclePatterns();
        Check.type(x, "R".repeat(40));
        Check.bad("a wrong sign", x.type(' ', 1));
        Check.bad("n = 0", x.type('a', 0));
        Check.bad("n = 9", x.type('a', 9));
        Check.due("else", x.type('a', 1), CyclePatterns.FULL);
    }

    private static void playsOn() {
        CyclePatterns x = Check.with("a");
        x.play(1, 1, 1);
        x.advance(10);
        x.type('b', 1);
        x.type(' ', 1);
        Check.due("tick", x.tick(), 10);
        Check.due("due", Check.dueOnsets(x), "0 0 a 1000");
        Check.due("advance", x.advance(10), 0);
    }
}
