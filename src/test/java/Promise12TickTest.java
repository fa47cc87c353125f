/** Promise 12: tick. */
public final class Promise12TickTest {
    public static void main(String[] args) {
        CyclePatterns x = Check.with("a");
        Check.due("nothing plays", x.tick(), 0);
        x.play(1, 1, 1);
        Check.due("it plays from 0", x.tick(), 0);
        x.advance(7);
        Check.due("7 went by", x.tick(), 7);
        x.advance(500);
        Check.due("500 more", x.tick(), 507);
        x.advance(501);
        Check.due("BAD", x.tick(), 507);
        x.play(0, 1, 1);
        Check.due("false", x.tick(), 507);
        x.play(1, 1, 1);
        Check.due("from 0 again", x.tick(), 0);
        x.advance(3);
        x.define(0);
        Check.due("it ended", x.tick(), 0);
        CyclePatterns y = Check.with("a");
        y.play(1, 20, 1);
        for (int i = 0; i < 500; i++) {
            y.advance(500);
        }
        Check.due("far ahead", y.tick(), 250000);
        Check.due("still exact", y.advance(51), 2);
        Check.due("what comes there", Check.dueOnsets(y), "250000 0 a 50, 250050 0 a 50");
        Check.end();
    }
}
