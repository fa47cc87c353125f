/** Promise 3: define. Where a buffer is wrong, and all grains, stand in TermsBufferTest. */
public final class Promise03DefineTest {
    private static final String TOO_FINE = "F9F9F9F7a";

    public static void main(String[] args) {
        Check.test("a slot gets the buffer's pattern: its grain", Promise03DefineTest::gets);
        Check.test("the other slots stay", Promise03DefineTest::otherSlots);
        Check.test("the buffer is empty then", Promise03DefineTest::empty);
        Check.test("the buffer is empty also when it is wrong", Promise03DefineTest::emptyWhenWrong);
        Check.test("the buffer is empty also when it is too fine", Promise03DefineTest::emptyWhenTooFine);
        Check.test("-100 - the place where it is wrong", Promise03DefineTest::wrong);
        Check.test("the slot stays when it is wrong", Promise03DefineTest::staysWhenWrong);
        Check.test("FULL when the grain is more than 5040", Promise03DefineTest::full);
        Check.test("FULL also for grains that no int holds", Promise03DefineTest::farTooFine);
        Check.test("FULL: the slot stays", Promise03DefineTest::staysWhenFull);
        Check.test("wrong and too fine is wrong", Promise03DefineTest::wrongAndTooFine);
        Check.test("BAD when there is no such slot", Promise03DefineTest::bad);
        Check.test("BAD: the buffer stays", Promise03DefineTest::bufferStays);
        Check.test("when something plays, it ends then (and nothing is due)", Promise03DefineTest::endsPlaying);
        Check.test("it plays on when it was BAD", Promise03DefineTest::playsOn);
        Check.test("define changes nothing that was found", Promise03DefineTest::foundStays);
        Check.end();
    }

    private static void gets() {
        CyclePatterns x = new CyclePatterns();
        for (int slot = 0; slot < 8; slot++) {
            Check.due("define", Check.define(x, slot, "F" + (slot + 1) + "a"), slot + 1);
        }
        for (int slot = 0; slot < 8; slot++) {
            Check.due("parts of slot " + slot, x.query(slot, 0, 1, 1), slot + 1);
            Check.due("unit of slot " + slot, x.unit(), slot + 1);
        }
        Check.due("define again", Check.define(x, 3, "[xyz]"), 3);
        x.query(3, 0, 1, 1);
        Check.due("the newer pattern", Check.found(x), "x 0..1 of 0..1, y 1..2 of 1..2, z 2..3 of 2..3");
    }

    private static void otherSlots() {
        CyclePatterns x = Check.with("a", "b", "c");
        Check.define(x, 1, "[de]");
        x.query(0, 0, 1, 1);
        Check.due("slot 0", Check.found(x), "a 0..1 of 0..1");
        x.query(2, 0, 1, 1);
        Check.due("slot 2", Check.found(x), "c 0..1 of 0..1");
        Check.due("slot 3", x.query(3, 0, 1, 1), 0);
    }

    private static void emptyAfter(String text, int want) {
        CyclePatterns x = new CyclePatterns();
        Check.due("define of " + text, Check.define(x, 0, text), want);
        Check.due("define of nothing", x.define(0), -100);
        Check.define(x, 0, text);
        Check.due("how many it has", x.type('a', 1), 1);
        Check.due("what it has", x.define(0), 1);
    }

    private static void empty() {
        emptyAfter("[ab]", 2);
        emptyAfter("R".repeat(39) + "a", 1);
    }

    private static void emptyWhenWrong() {
        emptyAfter("", -100);
        emptyAfter("ab", -101);
        emptyAfter("[[[[", -104);
        emptyAfter("R".repeat(40), -140);
    }

    private static void emptyWhenTooFine() {
        emptyAfter(TOO_FINE, CyclePatterns.FULL);
    }

    private static void wrong() {
        Check.defines("", -100);
        Check.defines("A", -100);
        Check.defines("aa", -101);
        Check.defines("R".repeat(39) + "A", -139);
        Check.defines("R".repeat(40), -140);
    }

    private static void staysWhenWrong() {
        CyclePatterns x = Check.with("[ab]");
        for (String text : new String[] {"", "F", "F5", "F5cc", "[cde", "<c"}) {
            Check.due("define of " + text, Check.define(x, 0, text) <= -100, true);
            x.query(0, 0, 1, 1);
            Check.due("the pattern", Check.found(x), "a 0..1 of 0..1, b 1..2 of 1..2");
            Check.due("its grain", x.unit(), 2);
        }
    }

    /** No grain lies between 5040 and 5103, as all are products of 1 .. 9. */
    private static void full() {
        Check.defines("F7F8F9S5L12a", 5040);
        Check.defines("F7F8F9F5[ab]", 5040);
        Check.defines("F7F8F9F5F2a", 5040);
        Check.defines("F7F8F9F5S2a", 5040);
        Check.defines("F7F8F9F5L12a", 5040);
        Check.defines("F7F8F9F5E120a", 5040);
        Check.defines("F9F9F9[aaaaaaa]", CyclePatterns.FULL);
        Check.defines("F9F9F9F7a", CyclePatterns.FULL);
        Check.defines("F9F9F9S7a", CyclePatterns.FULL);
        Check.defines("F9F9F9L17a", CyclePatterns.FULL);
        Check.defines("F9F9F9E170a", CyclePatterns.FULL);
        Check.defines("F9F9F9F7~", CyclePatterns.FULL);
    }

    private static void farTooFine() {
        Check.defines("F9".repeat(19) + "a", CyclePatterns.FULL);
        Check.defines("F8".repeat(19) + "~", CyclePatterns.FULL);
        Check.defines("F4".repeat(16) + "a", CyclePatterns.FULL);
        Check.defines("S4".repeat(19) + "a", CyclePatterns.FULL);
        Check.defines("L14".repeat(13) + "a", CyclePatterns.FULL);
        Check.defines("E140".repeat(9) + "a", CyclePatterns.FULL);
    }

    private static void staysWhenFull() {
        CyclePatterns x = Check.with("[ab]");
        Check.due("too fine", Check.define(x, 0, TOO_FINE), CyclePatterns.FULL);
        x.query(0, 0, 1, 1);
        Check.due("the pattern", Check.found(x), "a 0..1 of 0..1, b 1..2 of 1..2");
        Check.due("its grain", x.unit(), 2);
        CyclePatterns y = new CyclePatterns();
        Check.define(y, 7, TOO_FINE);
        Check.due("~ stays too", y.query(7, 0, 1, 1), 0);
        Check.due("with its grain", y.unit(), 1);
    }

    private static void wrongAndTooFine() {
        Check.defines("F9F9F9F9", -108);
        Check.defines("F7F8F9[aaaaa]S2b", -113);
        Check.defines("F7F8F9[aaaaaaaaaa]", -116);
        Check.defines("F9".repeat(19) + "A", -138);
        Check.defines("F9".repeat(19) + "ab", -139);
    }

    private static void bad() {
        CyclePatterns x = new CyclePatterns();
        for (int slot : new int[] {-1, 8, 9, 256, Integer.MIN_VALUE, Integer.MAX_VALUE}) {
            Check.bad("define of slot " + slot + " from nothing", x.define(slot));
            x.type('a', 1);
            Check.bad("define of slot " + slot, x.define(slot));
            Check.due("define of slot 0", x.define(0), 1);
            x.type(']', 1);
            Check.bad("define of slot " + slot + " when it is wrong", x.define(slot));
            Check.due("define of slot 7", x.define(7), -100);
        }
    }

    private static void bufferStays() {
        CyclePatterns x = new CyclePatterns();
        Check.type(x, "[ab");
        Check.bad("slot 8", x.define(8));
        Check.bad("slot -1", x.define(-1));
        Check.due("how many it has", x.type(']', 1), 4);
        Check.due("what it has", x.define(7), 2);
        x.query(7, 0, 1, 1);
        Check.due("its pattern", Check.found(x), "a 0..1 of 0..1, b 1..2 of 1..2");
    }

    private static void endsPlaying() {
        endsPlayingWith("b", 0, 1);
        endsPlayingWith("b", 7, 1);
        endsPlayingWith("", 5, -100);
        endsPlayingWith("bb", 5, -101);
        endsPlayingWith(TOO_FINE, 5, CyclePatterns.FULL);
    }

    private static void endsPlayingWith(String text, int slot, int want) {
        CyclePatterns x = Check.with("a");
        x.play(1, 1, 1);
        Check.due("advance", x.advance(500), 1);
        Check.due("define of " + text, Check.define(x, slot, text), want);
        Check.due("tick after define of " + text, x.tick(), 0);
        Check.bad("due after define of " + text, x.due(0, 0));
        Check.bad("advance after define of " + text, x.advance(1));
        Check.due("play again", x.play(1 << slot | 1, 1, 1), true);
        Check.due("it begins anew", x.advance(1) > 0, true);
    }

    private static void playsOn() {
        for (int slot : new int[] {-1, 8}) {
            CyclePatterns x = Check.with("a");
            x.play(1, 1, 1);
            x.advance(500);
            x.type('b', 1);
            Check.bad("define", x.define(slot));
            Check.due("tick", x.tick(), 500);
            Check.due("due", Check.dueOnsets(x), "0 0 a 1000");
            Check.due("advance", x.advance(500), 0);
            Check.due("advance", x.advance(1), 1);
        }
    }

    private static void foundStays() {
        CyclePatterns x = Check.with("[ab]");
        x.query(0, 0, 1, 3);
        Check.define(x, 0, "F5c");
        Check.due("what was found", Check.found(x), "a 0..2 of 0..3");
        Check.due("onsets", x.onsets(), 1);
        Check.due("unit", x.unit(), 6);
    }
}
