/** Promise 1: all eight slots have ~, nothing plays, the buffer is empty. */
public final class Promise01NewObjectTest {
    public static void main(String[] args) {
        CyclePatterns x = new CyclePatterns();
        Check.due("unit before any query", x.unit(), 1);
        Check.due("onsets before any query", x.onsets(), 0);
        Check.due("part before any query", x.part(0, 0), CyclePatterns.BAD);
        Check.due("tick", x.tick(), 0);
        Check.due("advance", x.advance(1), CyclePatterns.BAD);
        Check.due("due", x.due(0, 0), CyclePatterns.BAD);
        for (int slot = 0; slot < 8; slot++) {
            Check.due("parts of slot " + slot, x.query(slot, -8, 8, 1), 0);
            Check.due("its grain", x.unit(), 1);
            Check.due("differs from slot 0", x.differ(0, slot), -1);
        }
        Check.due("the buffer is empty", x.type('a', 1), 1);

        CyclePatterns y = new CyclePatterns();
        Check.due("an empty buffer is wrong at 0", y.define(0), -100);
        Check.due("all slots can play", y.play(255, 1, 1), true);
        Check.due("and are silent", y.advance(500), 0);
        Check.end();
    }
}
