/** Promise 2: type. */
public final class Promise02TypeTest {
    public static void main(String[] args) {
        order();
        badArguments();
        badCharacters();
        full();
        Check.end();
    }

    private static void order() {
        CyclePatterns x = new CyclePatterns();
        Check.due("eight characters", x.type(Check.packed("[abcdefg"), 8), 8);
        Check.due("behind them", x.type(Check.packed("h]"), 2), 10);
        Check.due("the highest byte comes first", x.define(0), 8);
        x.query(0, 0, 1, 1);
        Check.due("first letter", x.part(0, 4), 'a');
        Check.due("last letter", x.part(7, 4), 'h');

        CyclePatterns y = new CyclePatterns();
        Check.due("only the lowest n bytes count", y.type(0x0000FF2041424361L, 1), 1);
        Check.due("they are a pattern", y.define(0), 1);
        Check.due("bytes above may be below 0", y.type(-1L << 8 | 'b', 1), 1);
        Check.due("also then", y.define(0), 1);
    }

    private static void badArguments() {
        CyclePatterns x = new CyclePatterns();
        for (int n : new int[] {0, 9, -1, Integer.MIN_VALUE, Integer.MAX_VALUE}) {
            Check.due("n = " + n, x.type(Check.packed("aaaaaaaa"), n), CyclePatterns.BAD);
        }
        Check.due("the buffer stayed empty", x.type('a', 1), 1);
    }

    private static void badCharacters() {
        CyclePatterns x = new CyclePatterns();
        for (int sign : new int[] {0, 10, 32, 127, 128, 255}) {
            Check.due("character " + sign, x.type(sign, 1), CyclePatterns.BAD);
            Check.due("character " + sign + " last", x.type('a' << 8 | sign, 2), CyclePatterns.BAD);
            Check.due("character " + sign + " first", x.type(sign << 8 | 'a', 2), CyclePatterns.BAD);
        }
        Check.due("the lowest character", x.type(33, 1), 1);
        Check.due("the highest character", x.type(126, 1), 2);
        Check.due("bytes that are missing are 0", x.type('a', 2), CyclePatterns.BAD);
    }

    private static void full() {
        CyclePatterns x = new CyclePatterns();
        Check.due("39 characters", Check.type(x, "R".repeat(39)), 39);
        Check.due("two more", x.type(Check.packed("aa"), 2), CyclePatterns.FULL);
        Check.due("a bad one too many", x.type(Check.packed("a "), 2), CyclePatterns.BAD);
        Check.due("one more", x.type('a', 1), 40);
        Check.due("yet one more", x.type('a', 1), CyclePatterns.FULL);
        Check.due("n is 0", x.type('a', 0), CyclePatterns.BAD);
        Check.due("what was there is there", x.define(0), 1);
        Check.due("and empty then", x.type('a', 1), 1);
    }
}
