/** Promise 10: advance. */
public final class Promise10AdvanceTest {
    public static void main(String[] args) {
        Check.test("ticks go by: from the present one on, k of them", Promise10AdvanceTest::ticksGoBy);
        Check.test("onsets are due whose tick is one of these", Promise10AdvanceTest::firstAndLastTick);
        Check.test("the exact time in ticks, rounded down", Promise10AdvanceTest::roundedDown);
        Check.test("what was due before is due no more", Promise10AdvanceTest::dueNoMore);
        Check.test("onsets of all slots that play, and of no other", Promise10AdvanceTest::slots);
        Check.test("onsets are beginnings of wholes", Promise10AdvanceTest::onlyBeginnings);
        Check.test("by their ticks", Promise10AdvanceTest::byTicks);
        Check.test("then slots", Promise10AdvanceTest::bySlots);
        Check.test("then times", Promise10AdvanceTest::byTimes);
        Check.test("then ends", Promise10AdvanceTest::byEnds);
        Check.test("then letters", Promise10AdvanceTest::byLetters);
        Check.test("each onset just once, however the ticks go by", Promise10AdvanceTest::eachJustOnce);
        Check.test("BAD when k is not 1 .. 500", Promise10AdvanceTest::badTicks);
        Check.test("BAD when nothing plays", Promise10AdvanceTest::nothingPlays);
        Check.test("BAD leaves the tick and what is due", Promise10AdvanceTest::badLeavesIt);
        Check.test("MANY when they would be more than 100", Promise10AdvanceTest::many);
        Check.test("MANY: then no tick goes by", Promise10AdvanceTest::manyNoTick);
        Check.test("MANY: and nothing is due", Promise10AdvanceTest::manyNothingDue);
        Check.test("only onsets count for MANY", Promise10AdvanceTest::onlyOnsetsCount);
        Check.test("the deepest patterns play too", Promise10AdvanceTest::deepest);
        Check.test("exact after all the calls that an object is used for", Promise10AdvanceTest::farAhead);
        Check.end();
    }

    private static void advances(CyclePatterns x, int k, String want) {
        x.advance(k);
        Check.due("advance by " + k, Check.dueOnsets(x), want);
    }

    private static void ticksGoBy() {
        CyclePatterns x = Check.with("a");
        x.play(1, 1, 1);
        Check.due("one tick", x.advance(1), 1);
        Check.due("the tick then", x.tick(), 1);
        Check.due("500 ticks", x.advance(500), 0);
        Check.due("the tick then", x.tick(), 501);
    }

    private static void firstAndLastTick() {
        CyclePatterns x = Check.with("a");
        x.play(1, 20, 1);
        advances(x, 49, "0 0 a 50");
        advances(x, 1, "");
        advances(x, 50, "50 0 a 50");
        advances(x, 1, "100 0 a 50");
        advances(x, 49, "");
        advances(x, 51, "150 0 a 50, 200 0 a 50");
        advances(x, 49, "");
        advances(x, 1, "250 0 a 50");
    }

    private static void roundedDown() {
        CyclePatterns x = Check.with("[abc]");
        x.play(1, 1, 1);
        advances(x, 333, "0 0 a 333");
        advances(x, 1, "333 0 b 333");
        advances(x, 332, "");
        advances(x, 1, "666 0 c 334");
        advances(x, 333, "");
        advances(x, 1, "1000 0 a 333");
        CyclePatterns y = Check.with("F9a");
        y.play(1, 20, 1);
        advances(y, 50, "0 0 a 5, 5 0 a 6, 11 0 a 5, 16 0 a 6, 22 0 a 5, 27 0 a 6, 33 0 a 5, 38 0 a 6, 44 0 a 6");
        CyclePatterns z = Check.with("S7a");
        z.play(1, 13, 11);
        advances(z, 500, "0 0 a 5923");
    }

    private static void dueNoMore() {
        CyclePatterns x = Check.with("a");
        x.play(1, 1, 1);
        advances(x, 1, "0 0 a 1000");
        Check.due("nothing comes", x.advance(1), 0);
        Check.bad("due", x.due(0, 0));
    }

    private static void slots() {
        CyclePatterns x = Check.with("a", "b", "c", "d", "e", "f", "g", "h");
        x.play(0b10000001, 1, 1);
        advances(x, 1, "0 0 a 1000, 0 7 h 1000");
        x.play(0b01111110, 1, 1);
        Check.due("the others", x.advance(1), 6);
    }

    private static void onlyBeginnings() {
        CyclePatterns x = Check.with("[S2a]", "RS2b", "L12c", "V2~S2d");
        x.play(15, 1, 1);
        StringBuilder all = new StringBuilder();
        for (int i = 0; i < 6; i++) {
            x.advance(500);
            all.append(Check.dueOnsets(x)).append("; ");
        }
        Check.due("parts that begin where their wholes do", all.toString(),
                "0 0 a 2000; 500 2 c 1000; 1000 1 b 2000; 1500 2 c 1000; 2000 0 a 2000; 2500 2 c 1000; ");
    }

    private static void byTicks() {
        CyclePatterns x = Check.with("L12a", "b", "[~~c~]");
        x.play(7, 20, 1);
        advances(x, 50, "0 1 b 50, 25 0 a 50, 25 2 c 12");
    }

    private static void bySlots() {
        CyclePatterns x = Check.with("L19z", "F5L12b");
        x.play(3, 20, 1);
        advances(x, 5, "");
        advances(x, 1, "5 0 z 50, 5 1 b 10");
    }

    private static void byTimes() {
        CyclePatterns x = Check.with("{F9L11aF5L12b}");
        x.play(1, 20, 1);
        advances(x, 5, "0 0 a 5");
        advances(x, 1, "5 0 b 10, 5 0 a 6");
        CyclePatterns y = Check.with("F9F8F7<zyxwvu>", "a");
        y.play(3, 10, 1);
        advances(y, 1, "0 0 z 0, 0 0 y 0, 0 0 x 0, 0 0 w 0, 0 0 v 0, 0 0 u 1, 0 1 a 100");
    }

    private static void byEnds() {
        CyclePatterns x = Check.with("{S2azF2b}");
        x.play(1, 20, 1);
        advances(x, 1, "0 0 b 25, 0 0 z 50, 0 0 a 100");
    }

    private static void byLetters() {
        CyclePatterns x = Check.with("{bac}", "{ba}");
        x.play(3, 20, 1);
        advances(x, 1, "0 0 a 50, 0 0 b 50, 0 0 c 50, 0 1 a 50, 0 1 b 50");
        CyclePatterns y = Check.with("{aa}");
        y.play(1, 20, 1);
        advances(y, 1, "0 0 a 50, 0 0 a 50");
    }

    private static void eachJustOnce() {
        String[] texts = {"F7[ab~]", "E382<abc>", "RL37{aS2b}", "V3[S3ab]L59c"};
        for (int speed = 1; speed <= 20; speed += 6) {
            CyclePatterns x = Check.with(texts);
            CyclePatterns y = Check.with(texts);
            x.play(15, speed, 7);
            y.play(15, speed, 7);
            StringBuilder slowly = new StringBuilder();
            StringBuilder fast = new StringBuilder();
            for (int ticks = 0; ticks < 300; ticks++) {
                append(slowly, x, 1);
            }
            for (int ticks = 0; ticks < 300; ticks += 75) {
                append(fast, y, 75);
            }
            Check.due("the same onsets, however many ticks a call", slowly.toString(), fast.toString());
        }
    }

    private static void append(StringBuilder all, CyclePatterns x, int ticks) {
        if (x.advance(ticks) > 0) {
            all.append(Check.dueOnsets(x)).append(", ");
        }
    }

    private static void badTicks() {
        for (int k : new int[] {0, 501, -1, -500, 1000, Integer.MIN_VALUE, Integer.MAX_VALUE}) {
            CyclePatterns x = Check.with("a");
            x.play(1, 1, 1);
            Check.bad("advance(" + k + ")", x.advance(k));
        }
        for (int k : new int[] {1, 2, 499, 500}) {
            CyclePatterns x = Check.with("a");
            x.play(1, 1, 1);
            Check.due("advance(" + k + ")", x.advance(k), 1);
        }
    }

    private static void nothingPlays() {
        CyclePatterns x = Check.with("a");
        for (int k : new int[] {0, 1, 500, 501}) {
            Check.bad("of a new object", x.advance(k));
        }
        Check.due("no tick went by", x.tick(), 0);
        x.play(1, 1, 1);
        Check.due("something plays", x.advance(1), 1);
        x.define(0);
        Check.bad("it ended", x.advance(1));
        Check.due("no tick went by", x.tick(), 0);
    }

    private static void badLeavesIt() {
        CyclePatterns x = Check.with("a");
        x.play(1, 1, 1);
        x.advance(500);
        for (int k : new int[] {0, 501, -1, Integer.MIN_VALUE, Integer.MAX_VALUE}) {
            x.advance(k);
            Check.due("tick", x.tick(), 500);
            Check.due("due", Check.dueOnsets(x), "0 0 a 1000");
        }
        Check.due("it plays on", x.advance(500), 0);
        Check.due("from there", x.advance(1), 1);
    }

    private static void many() {
        CyclePatterns x = Check.with("F5F5F4a", "b", "F5[aaaaaaaaa]");
        x.play(1, 2, 1);
        Check.due("100", x.advance(500), 100);
        Check.due("the last of them", x.due(99, 0), 495);
        Check.bad("no other", x.due(100, 0));
        x.play(3, 2, 1);
        Check.due("101 of two slots", x.advance(500), CyclePatterns.MANY);
        x.play(1, 20, 1);
        Check.due("100", x.advance(50), 100);
        x.play(1, 20, 1);
        Check.due("102", x.advance(51), CyclePatterns.MANY);
        x.play(1, 20, 1);
        Check.due("1000", x.advance(500), CyclePatterns.MANY);
        CyclePatterns y = Check.with("{F5F5F4aa}");
        y.play(1, 2, 1);
        Check.due("101 of one slot", y.advance(500), CyclePatterns.MANY);
    }

    private static void manyNoTick() {
        CyclePatterns x = Check.with("F5F5F4a", "b");
        x.play(3, 2, 1);
        Check.due("101", x.advance(500), CyclePatterns.MANY);
        Check.due("tick", x.tick(), 0);
        Check.due("100", x.advance(495), 100);
        Check.due("tick", x.tick(), 495);
        Check.due("101 again", x.advance(500), CyclePatterns.MANY);
        Check.due("tick", x.tick(), 495);
        Check.due("just what comes there", x.advance(1), 1);
        Check.due("which", Check.dueOnsets(x), "495 0 a 5");
    }

    private static void manyNothingDue() {
        CyclePatterns x = Check.with("F5F5F4a");
        x.play(1, 20, 1);
        Check.due("some", x.advance(10), 20);
        Check.due("too many", x.advance(100), CyclePatterns.MANY);
        for (int what = 0; what < 4; what++) {
            Check.bad("due(0, " + what + ")", x.due(0, what));
        }
        Check.bad("the last that there would be room for", x.due(99, 0));
        Check.due("and then", x.advance(1), 2);
        Check.due("which", Check.dueOnsets(x), "10 0 a 0, 10 0 a 1");
    }

    private static void onlyOnsetsCount() {
        CyclePatterns x = Check.with("F9F9[S9S6a]", "F9F9F9V2~S2a");
        x.play(1, 20, 1);
        Check.due("few of many parts", x.advance(500), 15);
        x.play(2, 20, 1);
        Check.due("none of many parts", x.advance(500), 0);
    }

    private static void deepest() {
        CyclePatterns x = Check.with("R".repeat(39) + "a", "[".repeat(19) + "b" + "]".repeat(19));
        x.play(3, 20, 1);
        advances(x, 1, "0 0 a 50, 0 1 b 50");
    }

    private static void farAhead() {
        CyclePatterns x = Check.with("[abc]");
        x.play(1, 20, 1);
        for (int i = 0; i < 480; i++) {
            x.advance(500);
        }
        Check.due("tick", x.tick(), 240000);
        advances(x, 34, "240000 0 a 16, 240016 0 b 17, 240033 0 c 17");
        CyclePatterns y = Check.with("<a<a<ab>>>");
        y.play(1, 1, 20);
        for (int i = 0; i < 280; i++) {
            y.advance(500);
        }
        advances(y, 1, "140000 0 b 20000");
    }
}
