/** Promise 5: unit. */
public final class Promise05UnitTest {
    public static void main(String[] args) {
        CyclePatterns x = Check.with("[abc]", "F9F9F9a", "a");
        Check.due("before any query", x.unit(), 1);
        x.query(0, 0, 1, 51);
        Check.due("after a BAD one alone", x.unit(), 1);
        x.query(0, 0, 1, 7);
        Check.due("grain times d", x.unit(), 21);
        x.query(0, 1, 1, 5);
        Check.due("a BAD one changes nothing", x.unit(), 21);
        x.query(8, 0, 1, 5);
        Check.due("nor does another slot that is BAD", x.unit(), 21);
        Check.due("MANY", x.query(1, 0, 2, 2), CyclePatterns.MANY);
        Check.due("counts", x.unit(), 1458);
        x.query(2, 0, 1, 1);
        Check.due("a grain of 1", x.unit(), 1);
        x.query(0, 0, 50, 50);
        Check.define(x, 0, "F7a");
        Check.due("the slot of then", x.unit(), 150);
        x.differ(0, 1);
        Check.due("differ is no query", x.unit(), 150);
        x.query(0, 0, 50, 50);
        Check.due("the slot of now", x.unit(), 350);
        Check.define(x, 0, "F7F8F9S5L12a");
        x.query(0, 0, 1, 50);
        Check.due("the finest", x.unit(), 252000);
        Check.end();
    }
}
