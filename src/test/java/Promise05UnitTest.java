/** Promise 5: unit. */
public final class Promise05UnitTest {
    public static void main(String[] args) {
        Check.test("the grain of its slot times d", Promise05UnitTest::grainTimesSplit);
        Check.test("1 before any query", Promise05UnitTest::before);
        Check.test("1 also behind BAD queries alone", Promise05UnitTest::behindBadOnesAlone);
        Check.test("of the latest query that was not BAD", Promise05UnitTest::behindABadOne);
        Check.test("also of one that was MANY", Promise05UnitTest::behindMany);
        Check.test("also of one that found nothing", Promise05UnitTest::behindNothing);
        Check.test("the times that were found stay counted so, whatever becomes of the slot", Promise05UnitTest::redefined);
        Check.test("no other call is a query", Promise05UnitTest::otherCalls);
        Check.end();
    }

    private static void grainTimesSplit() {
        CyclePatterns x = Check.with("[abc]", "a", "F7F8F9S5L12a");
        x.query(0, 0, 1, 1);
        Check.due("3 times 1", x.unit(), 3);
        x.query(0, 0, 1, 7);
        Check.due("3 times 7", x.unit(), 21);
        x.query(1, 0, 1, 1);
        Check.due("the coarsest", x.unit(), 1);
        x.query(2, 0, 1, 50);
        Check.due("the finest", x.unit(), 252000);
    }

    private static void before() {
        Check.due("of a new object", new CyclePatterns().unit(), 1);
        Check.due("with a slot of a finer grain", Check.with("[abc]").unit(), 1);
    }

    private static void behindBadOnesAlone() {
        CyclePatterns x = Check.with("[abc]");
        x.query(0, 0, 1, 51);
        x.query(0, 0, 17, 1);
        x.query(0, 5, 5, 5);
        x.query(-1, 0, 1, 5);
        x.query(8, 0, 1, 5);
        Check.due("unit", x.unit(), 1);
    }

    private static void behindABadOne() {
        CyclePatterns x = Check.with("[abc]", "F5a");
        x.query(0, 0, 1, 7);
        int[][] calls = {{1, 1, 1, 5}, {1, 0, 17, 1}, {1, 0, 1, 51}, {1, 0, 1, 0}, {8, 0, 1, 5}, {-1, 0, 1, 5},
            {1, -5001, -5000, 5}, {1, 5000, 5001, 5}};
        for (int[] call : calls) {
            Check.bad("query", x.query(call[0], call[1], call[2], call[3]));
            Check.due("unit", x.unit(), 21);
        }
    }

    private static void behindMany() {
        CyclePatterns x = Check.with("[abc]", "F9F9F9a");
        x.query(0, 0, 1, 7);
        Check.due("query", x.query(1, 0, 2, 2), CyclePatterns.MANY);
        Check.due("unit", x.unit(), 1458);
        x.query(0, 0, 0, 1);
        Check.due("unit behind a BAD one", x.unit(), 1458);
    }

    private static void behindNothing() {
        CyclePatterns x = Check.with("[abc]", "E050a");
        x.query(0, 0, 1, 7);
        Check.due("query", x.query(1, 0, 1, 2), 0);
        Check.due("unit", x.unit(), 10);
        Check.due("query of ~", x.query(7, 0, 1, 3), 0);
        Check.due("unit of ~", x.unit(), 3);
    }

    private static void redefined() {
        CyclePatterns x = Check.with("[abc]");
        x.query(0, 0, 50, 50);
        Check.define(x, 0, "F7a");
        Check.due("as it was then", x.unit(), 150);
        Check.due("as the parts are", x.part(2, 1), 150);
        x.query(0, 0, 50, 50);
        Check.due("behind a newer query", x.unit(), 350);
    }

    private static void otherCalls() {
        CyclePatterns x = Check.with("[abc]", "F5a");
        x.query(0, 0, 1, 2);
        x.differ(1, 0);
        x.play(2, 1, 1);
        x.advance(500);
        x.due(0, 0);
        x.part(0, 0);
        x.onsets();
        x.tick();
        x.type('a', 1);
        Check.due("unit", x.unit(), 6);
    }
}
