/** Promise 11: due. */
public final class Promise11DueTest {
    public static void main(String[] args) {
        CyclePatterns x = Check.with("~", "[abc]", "S2z");
        x.play(6, 1, 1);
        Check.due("nothing is due yet", x.due(0, 0), CyclePatterns.BAD);
        Check.due("advance", x.advance(500), 3);
        int[][] want = {{0, 1, 'a', 333}, {0, 2, 'z', 2000}, {333, 1, 'b', 333}};
        for (int i = 0; i < want.length; i++) {
            for (int what = 0; what < 4; what++) {
                Check.due("due(" + i + ", " + what + ")", x.due(i, what), want[i][what]);
            }
        }
        for (int i : new int[] {-1, 3, 100, Integer.MIN_VALUE, Integer.MAX_VALUE}) {
            for (int what = 0; what < 4; what++) {
                Check.due("due(" + i + ", " + what + ")", x.due(i, what), CyclePatterns.BAD);
            }
        }
        for (int what : new int[] {-1, 4, Integer.MIN_VALUE, Integer.MAX_VALUE}) {
            Check.due("due(0, " + what + ")", x.due(0, what), CyclePatterns.BAD);
        }
        x.query(1, 0, 1, 1);
        Check.due("query changes nothing", x.due(2, 2), 'b');
        Check.due("advance", x.advance(500), 1);
        Check.due("the tick of its end less its own", Check.dueOnsets(x), "666 1 c 334");
        Check.due("advance", x.advance(500), 2);
        Check.due("the next cycle", Check.dueOnsets(x), "1000 1 a 333, 1333 1 b 333");
        CyclePatterns y = Check.with("S9S8S7S9a");
        y.play(1, 1, 20);
        y.advance(1);
        Check.due("a long one", y.due(0, 3), 4536 * 20000);
        Check.end();
    }
}
