/** Promise 12: tick. */
public final class Promise12TickTest {
    public static void main(String[] args) {
        Check.test("the present tick", Promise12TickTest::ordinary);
        Check.test("0 when nothing plays", Promise12TickTest::nothingPlays);
        Check.test("refused calls do not move it", Promise12TickTest::refused);
        Check.test("no other call moves it", Promise12TickTest::otherCalls);
        Check.test("far ahead", Promise12TickTest::farAhead);
        Check.end();
    }

    private static void ordinary() {
        CyclePatterns x = Check.with("a");
        x.play(1, 1, 1);
        Check.due("at the start", x.tick(), 0);
        x.advance(1);
        Check.due("1 went by", x.tick(), 1);
        x.advance(500);
        Check.due("500 more", x.tick(), 501);
        x.play(1, 20, 1);
        Check.due("play starts from 0", x.tick(), 0);
        x.advance(7);
        Check.due("ticks, not cycles", x.tick(), 7);
    }

    private static void nothingPlays() {
        CyclePatterns x = Check.with("a");
        Check.due("of a new object", x.tick(), 0);
        x.advance(5);
        Check.due("behind advance", x.tick(), 0);
        for (String text : new String[] {"b", "", "bb", "F9F9F9F7a"}) {
            x.play(1, 1, 1);
            x.advance(5);
            Check.due("while it plays", x.tick(), 5);
            Check.define(x, 3, text);
            Check.due("when it ended by define of " + text, x.tick(), 0);
        }
    }

    private static void refused() {
        CyclePatterns x = Check.with("F9F9F9a");
        x.play(1, 20, 1);
        x.advance(3);
        x.advance(0);
        x.advance(501);
        Check.due("behind advance that was BAD", x.tick(), 3);
        Check.due("too many", x.advance(500), CyclePatterns.MANY);
        Check.due("behind advance that was MANY", x.tick(), 3);
        x.play(0, 1, 1);
        x.play(1, 21, 1);
        x.play(1, 1, 21);
        Check.due("behind play that was false", x.tick(), 3);
        x.define(8);
        Check.due("behind define that was BAD", x.tick(), 3);
    }

    private static void otherCalls() {
        CyclePatterns x = Check.with("a");
        x.play(1, 1, 1);
        x.advance(3);
        x.type('a', 1);
        x.query(0, 0, 1, 1);
        x.unit();
        x.part(0, 0);
        x.onsets();
        x.differ(0, 1);
        x.due(0, 0);
        x.tick();
        Check.due("tick", x.tick(), 3);
    }

    private static void farAhead() {
        CyclePatterns x = Check.with("a");
        x.play(1, 1, 20);
        for (int i = 0; i < 500; i++) {
            x.advance(500);
        }
        Check.due("tick", x.tick(), 250000);
    }
}
