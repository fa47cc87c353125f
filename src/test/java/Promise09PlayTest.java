/** Promise 9: play. */
public final class Promise09PlayTest {
    public static void main(String[] args) {
        Check.test("all slots of a set (bit i of mask for slot i) play", Promise09PlayTest::masks);
        Check.test("from time 0 at tick 0, and nothing is due", Promise09PlayTest::startsAnew);
        Check.test("n / d cycles each 1000 ticks", Promise09PlayTest::speeds);
        Check.test("false when mask is not 1 .. 255", Promise09PlayTest::badMasks);
        Check.test("false when n is not 1 .. 20", Promise09PlayTest::badN);
        Check.test("false when d is not 1 .. 20", Promise09PlayTest::badD);
        Check.test("false: nothing changes when something plays", Promise09PlayTest::refusedWhilePlaying);
        Check.test("false: nothing changes when nothing plays", Promise09PlayTest::refusedWhileSilent);
        Check.test("play changes nothing that was found or typed", Promise09PlayTest::staysApart);
        Check.end();
    }

    private static void plays(int mask, int n, int d, boolean want) {
        Check.due("play(" + mask + ", " + n + ", " + d + ")", Check.with("a").play(mask, n, d), want);
    }

    private static void masks() {
        for (int mask = 1; mask <= 255; mask++) {
            CyclePatterns x = Check.with("a", "b", "c", "d", "e", "f", "g", "h");
            StringBuilder want = new StringBuilder();
            for (int slot = 0; slot < 8; slot++) {
                if ((mask & 1 << slot) != 0) {
                    want.append(want.length() == 0 ? "" : ", ").append("0 ").append(slot).append(' ')
                            .append((char) ('a' + slot)).append(" 1000");
                }
            }
            x.play(mask, 1, 1);
            x.advance(1);
            Check.due("slots that play of " + mask, Check.dueOnsets(x), want.toString());
        }
    }

    private static void startsAnew() {
        CyclePatterns x = Check.with("a", "b");
        x.play(1, 1, 1);
        x.advance(300);
        Check.due("play again", x.play(2, 1, 2), true);
        Check.due("tick", x.tick(), 0);
        Check.bad("due", x.due(0, 0));
        Check.due("advance", x.advance(1), 1);
        Check.due("from time 0", Check.dueOnsets(x), "0 1 b 2000");
        x.advance(100);
        Check.due("the same again", x.play(2, 1, 2), true);
        Check.due("tick", x.tick(), 0);
        Check.due("advance", x.advance(1), 1);
    }

    private static void speed(int n, int d, int lasts) {
        CyclePatterns x = Check.with("a");
        Check.due("play(1, " + n + ", " + d + ")", x.play(1, n, d), true);
        x.advance(1);
        Check.due("at " + n + " / " + d, Check.dueOnsets(x), "0 0 a " + lasts);
    }

    private static void speeds() {
        speed(1, 1, 1000);
        speed(20, 1, 50);
        speed(1, 20, 20000);
        speed(20, 20, 1000);
        speed(3, 7, 2333);
        speed(7, 3, 428);
        speed(19, 20, 1052);
    }

    private static void badMasks() {
        for (int mask : new int[] {0, 256, -1, 257, 511, -255, Integer.MIN_VALUE, Integer.MAX_VALUE}) {
            plays(mask, 1, 1, false);
        }
        plays(1, 1, 1, true);
        plays(255, 1, 1, true);
    }

    private static void badN() {
        for (int n : new int[] {0, 21, -1, -20, Integer.MIN_VALUE, Integer.MAX_VALUE}) {
            plays(1, n, 1, false);
            plays(255, n, 20, false);
        }
        for (int n = 1; n <= 20; n++) {
            plays(1, n, 1, true);
        }
    }

    private static void badD() {
        for (int d : new int[] {0, 21, -1, -20, Integer.MIN_VALUE, Integer.MAX_VALUE}) {
            plays(1, 1, d, false);
            plays(255, 20, d, false);
        }
        for (int d = 1; d <= 20; d++) {
            plays(1, 1, d, true);
        }
    }

    private static final int[][] REFUSED = {{0, 2, 3}, {256, 2, 3}, {2, 0, 3}, {2, 21, 3}, {2, 2, 0}, {2, 2, 21}};

    private static void refusedWhilePlaying() {
        for (int[] call : REFUSED) {
            CyclePatterns x = Check.with("a", "b");
            x.play(1, 1, 1);
            x.advance(300);
            Check.due("play", x.play(call[0], call[1], call[2]), false);
            Check.due("tick", x.tick(), 300);
            Check.due("due", Check.dueOnsets(x), "0 0 a 1000");
            Check.due("it plays on", x.advance(500), 0);
            Check.due("from there", x.advance(500), 1);
            Check.due("the same slots at the same speed", Check.dueOnsets(x), "1000 0 a 1000");
        }
    }

    private static void refusedWhileSilent() {
        for (int[] call : REFUSED) {
            CyclePatterns x = Check.with("a", "b");
            Check.due("play", x.play(call[0], call[1], call[2]), false);
            Check.bad("advance", x.advance(1));
            Check.due("tick", x.tick(), 0);
            Check.bad("due", x.due(0, 0));
        }
    }

    private static void staysApart() {
        CyclePatterns x = Check.with("[ab]");
        x.query(0, 0, 1, 3);
        x.type('[', 1);
        x.play(1, 1, 1);
        x.play(0, 1, 1);
        Check.due("found", Check.found(x), "a 0..2 of 0..3");
        Check.due("unit", x.unit(), 6);
        Check.due("the buffer", x.type('a', 1), 2);
    }
}
