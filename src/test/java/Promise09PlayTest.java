/** Promise 9: play. */
public final class Promise09PlayTest {
    public static void main(String[] args) {
        badArguments();
        startsAnew();
        masksAndSpeeds();
        Check.end();
    }

    private static void badArguments() {
        CyclePatterns x = Check.with("a");
        x.play(1, 1, 1);
        x.advance(300);
        int[][] bad = {
            {0, 1, 1}, {256, 1, 1}, {-1, 1, 1}, {Integer.MIN_VALUE, 1, 1}, {Integer.MAX_VALUE, 1, 1}, {257, 1, 1},
            {1, 0, 1}, {1, 21, 1}, {1, -1, 1}, {1, 1, 0}, {1, 1, 21}, {1, 1, -1}, {1, Integer.MAX_VALUE, 1},
        };
        for (int[] b : bad) {
            Check.due("play(" + b[0] + ", " + b[1] + ", " + b[2] + ")", x.play(b[0], b[1], b[2]), false);
        }
        Check.due("the tick stays", x.tick(), 300);
        Check.due("what is due stays", Check.dueOnsets(x), "0 0 a 1000");
        Check.due("it plays on", x.advance(500), 0);
        Check.due("from there", x.advance(500), 1);
        Check.due("at its speed", Check.dueOnsets(x), "1000 0 a 1000");
    }

    private static void startsAnew() {
        CyclePatterns x = Check.with("a", "b");
        x.play(1, 1, 1);
        x.advance(300);
        Check.due("play again", x.play(2, 1, 2), true);
        Check.due("from tick 0", x.tick(), 0);
        Check.due("nothing is due", x.due(0, 0), CyclePatterns.BAD);
        Check.due("advance", x.advance(1), 1);
        Check.due("from time 0", Check.dueOnsets(x), "0 1 b 2000");
    }

    private static void masksAndSpeeds() {
        CyclePatterns x = Check.with("a", "b", "c", "d", "e", "f", "g", "h");
        for (int mask = 1; mask < 256; mask += 2) {
            Check.due("play of " + mask, x.play(mask, 1, 1), true);
            Check.due("slots that play", x.advance(1), Integer.bitCount(mask));
        }
        x.play(0b10100100, 20, 1);
        x.advance(1);
        Check.due("which of them", Check.dueOnsets(x), "0 2 c 50, 0 5 f 50, 0 7 h 50");
        x.play(1, 20, 20);
        x.advance(1);
        Check.due("20 / 20", Check.dueOnsets(x), "0 0 a 1000");
        x.play(1, 1, 20);
        x.advance(1);
        Check.due("1 / 20", Check.dueOnsets(x), "0 0 a 20000");
        x.play(1, 3, 7);
        x.advance(1);
        Check.due("3 / 7", Check.dueOnsets(x), "0 0 a 2333");
    }
}
