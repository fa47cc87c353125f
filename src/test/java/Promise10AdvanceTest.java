/** Promise 10: advance. */
public final class Promise10AdvanceTest {
    public static void main(String[] args) {
        badArguments();
        order();
        onlyBeginnings();
        eachJustOnce();
        many();
        Check.end();
    }

    private static void badArguments() {
        CyclePatterns x = Check.with("a");
        Check.due("nothing plays", x.advance(1), CyclePatterns.BAD);
        x.play(1, 1, 1);
        Check.due("all ticks at once", x.advance(500), 1);
        for (int k : new int[] {0, -1, 501, Integer.MIN_VALUE, Integer.MAX_VALUE}) {
            Check.due("advance(" + k + ")", x.advance(k), CyclePatterns.BAD);
        }
        Check.due("no tick went by", x.tick(), 500);
        Check.due("what is due stays", x.due(0, 2), 'a');
        Check.due("one tick", x.advance(1), 0);
        Check.due("nothing is due", x.due(0, 2), CyclePatterns.BAD);
        Check.due("it went by", x.tick(), 501);
    }

    private static void order() {
        CyclePatterns x = Check.with("{zS2yF2xb}", "[cd]", "F9F9F9F6<e~~~~~~~~>");
        x.play(3, 20, 1);
        Check.due("two slots", x.advance(50), 7);
        Check.due("by ticks, slots, times, ends, letters", Check.dueOnsets(x),
                "0 0 x 25, 0 0 b 50, 0 0 z 50, 0 0 y 100, 0 1 c 25, 25 0 x 25, 25 1 d 25");
        CyclePatterns y = Check.with("F9F8F7<zyxwvu>", "a");
        y.play(3, 10, 1);
        Check.due("some in a tick", y.advance(1), 7);
        Check.due("by times within a tick", Check.dueOnsets(y),
                "0 0 z 0, 0 0 y 0, 0 0 x 0, 0 0 w 0, 0 0 v 0, 0 0 u 1, 0 1 a 100");
    }

    private static void onlyBeginnings() {
        CyclePatterns x = Check.with("[S2a]", "RS2b", "L12c");
        x.play(7, 1, 1);
        StringBuilder all = new StringBuilder();
        for (int i = 0; i < 6; i++) {
            x.advance(500);
            all.append(Check.dueOnsets(x)).append("; ");
        }
        Check.due("parts that begin where their wholes do", all.toString(),
                "0 0 a 2000; 500 2 c 1000; 1000 1 b 2000; 1500 2 c 1000; 2000 0 a 2000; 2500 2 c 1000; ");
    }

    private static void eachJustOnce() {
        String[] texts = {"F7[ab~]", "E382<abc>", "RL37{aS2b}", "V3[S3ab]L59c"};
        for (int speed = 1; speed <= 20; speed += 6) {
            CyclePatterns x = Check.with(texts);
            CyclePatterns y = Check.with(texts);
            x.play(15, speed, 7);
            y.play(15, speed, 7);
            StringBuilder slowly = new StringBuilder();
            StringBuilder fast = new StringBuilder();
            for (int ticks = 0; ticks < 400; ticks++) {
                append(slowly, x, 1);
            }
            for (int ticks = 0; ticks < 400; ticks += 80) {
                append(fast, y, 80);
            }
            Check.due("the same onsets, however many ticks a call", slowly.toString(), fast.toString());
        }
    }

    private static void append(StringBuilder all, CyclePatterns x, int ticks) {
        if (x.advance(ticks) > 0) {
            all.append(Check.dueOnsets(x)).append(", ");
        }
    }

    private static void many() {
        CyclePatterns x = Check.with("F5F5F4a", "b");
        x.play(1, 1, 1);
        Check.due("50", x.advance(500), 50);
        x.play(1, 2, 1);
        Check.due("100", x.advance(500), 100);
        Check.due("the last of them", x.due(99, 0), 495);
        x.play(3, 2, 1);
        Check.due("101, of two slots", x.advance(500), CyclePatterns.MANY);
        Check.due("no tick goes by", x.tick(), 0);
        Check.due("nothing is due", x.due(0, 0), CyclePatterns.BAD);
        Check.due("fewer", x.advance(495), 100);
        Check.due("ticks", x.tick(), 495);
        Check.due("101 again", x.advance(500), CyclePatterns.MANY);
        Check.due("ticks", x.tick(), 495);
        x.play(3, 20, 1);
        x.advance(10);
        Check.due("too many", x.advance(100), CyclePatterns.MANY);
        Check.due("nothing is due", x.due(0, 0), CyclePatterns.BAD);
        Check.due("the tick stays", x.tick(), 10);
        Check.due("and then", x.advance(1), 2);
        Check.due("just what comes there", Check.dueOnsets(x), "10 0 a 0, 10 0 a 1");
        CyclePatterns y = Check.with("F9F9[S9S6a]");
        y.play(1, 20, 1);
        Check.due("what is no onset does not count", y.advance(500), 15);
    }
}
