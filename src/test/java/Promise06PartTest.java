/** Promise 6: part. */
public final class Promise06PartTest {
    public static void main(String[] args) {
        CyclePatterns x = Check.with("[aL12b]", "~");
        Check.due("found", x.query(0, -3, 4, 4), 6);
        Check.due("unit", x.unit(), 16);
        int[][] want = {
            {-12, -8, -16, -8, 'a'}, {-8, -4, -12, -4, 'b'}, {-4, 0, -4, 4, 'b'}, {0, 8, 0, 8, 'a'}, {8, 12, 4, 12, 'b'},
        };
        Check.due("found", x.query(0, -3, 3, 4), want.length);
        for (int i = 0; i < want.length; i++) {
            for (int what = 0; what < 5; what++) {
                Check.due("part(" + i + ", " + what + ")", x.part(i, what), want[i][what]);
            }
        }
        for (int i : new int[] {-1, 5, 200, Integer.MIN_VALUE, Integer.MAX_VALUE}) {
            for (int what = 0; what < 5; what++) {
                Check.due("part(" + i + ", " + what + ")", x.part(i, what), CyclePatterns.BAD);
            }
        }
        for (int what : new int[] {-1, 5, Integer.MIN_VALUE, Integer.MAX_VALUE}) {
            Check.due("part(0, " + what + ")", x.part(0, what), CyclePatterns.BAD);
        }
        Check.define(x, 0, "z");
        Check.due("define changes nothing that was found", x.part(0, 4), 'a');
        x.differ(0, 1);
        Check.due("nor does differ", x.part(0, 4), 'a');
        x.play(1, 1, 1);
        x.advance(1);
        Check.due("nor does advance", x.part(4, 2), 4);
        x.query(1, 0, 1, 1);
        Check.due("a query does", x.part(0, 4), CyclePatterns.BAD);
        Check.end();
    }
}
