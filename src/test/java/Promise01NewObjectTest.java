/** Promise 1: a new object. */
public final class Promise01NewObjectTest {
    public static void main(String[] args) {
        Check.test("all eight slots 0 .. 7 have ~", Promise01NewObjectTest::slots);
        Check.test("all eight slots have the grain of ~", Promise01NewObjectTest::grains);
        Check.test("nothing plays", Promise01NewObjectTest::nothingPlays);
        Check.test("an empty buffer", Promise01NewObjectTest::emptyBuffer);
        Check.test("nothing is found", Promise01NewObjectTest::nothingFound);
        Check.test("a new object knows nothing of another one", Promise01NewObjectTest::objectsOfTheirOwn);
        Check.end();
    }

    private static void slots() {
        CyclePatterns x = new CyclePatterns();
        for (int slot = 0; slot < 8; slot++) {
            Check.due("parts of slot " + slot, x.query(slot, -8, 8, 1), 0);
            Check.due("slot " + slot + " and slot 0 differ", x.differ(slot, 0), -1);
        }
        Check.bad("there is no slot -1", x.query(-1, 0, 1, 1));
        Check.bad("there is no slot 8", x.query(8, 0, 1, 1));
        Check.due("all slots can play", x.play(255, 20, 1), true);
        Check.due("and are silent", x.advance(500), 0);
    }

    private static void grains() {
        CyclePatterns x = new CyclePatterns();
        for (int slot = 0; slot < 8; slot++) {
            x.query(slot, 0, 1, slot + 1);
            Check.due("unit of slot " + slot, x.unit(), slot + 1);
        }
    }

    private static void nothingPlays() {
        CyclePatterns x = new CyclePatterns();
        Check.due("tick", x.tick(), 0);
        Check.bad("due", x.due(0, 0));
        Check.bad("advance", x.advance(1));
        Check.due("tick", x.tick(), 0);
    }

    private static void emptyBuffer() {
        Check.due("the first character", new CyclePatterns().type('a', 1), 1);
        Check.due("eight characters", new CyclePatterns().type(Check.packed("aaaaaaaa"), 8), 8);
        Check.due("an empty buffer is wrong at 0", new CyclePatterns().define(0), -100);
    }

    private static void nothingFound() {
        CyclePatterns x = new CyclePatterns();
        Check.due("onsets", x.onsets(), 0);
        Check.due("unit", x.unit(), 1);
        Check.bad("part", x.part(0, 0));
    }

    private static void objectsOfTheirOwn() {
        CyclePatterns x = Check.with("[ab]");
        x.query(0, 0, 1, 1);
        x.play(1, 1, 1);
        x.advance(100);
        x.type('a', 1);
        CyclePatterns y = new CyclePatterns();
        Check.due("the buffer", y.type('a', 1), 1);
        Check.due("unit", y.unit(), 1);
        Check.due("onsets", y.onsets(), 0);
        Check.due("tick", y.tick(), 0);
        Check.bad("advance", y.advance(1));
        Check.due("the slot", y.query(0, 0, 1, 1), 0);
        Check.due("found by the other one", x.onsets(), 2);
        Check.due("due in the other one", Check.dueOnsets(x), "0 0 a 500");
    }
}
