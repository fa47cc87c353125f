/** Promise 3: define, the grain, and where a buffer is wrong. */
public final class Promise03DefineTest {
    public static void main(String[] args) {
        grains();
        wrongPlaces();
        slots();
        tooFine();
        endsPlaying();
        Check.end();
    }

    private static void answers(String text, int want) {
        Check.due("define of " + text, Check.define(new CyclePatterns(), 0, text), want);
    }

    private static void wrongAt(String text, int place) {
        answers(text, -100 - place);
    }

    private static void grains() {
        answers("~", 1);
        answers("z", 1);
        answers("[a]", 1);
        answers("[ab~]", 3);
        answers("[ab[cd]]", 6);
        answers("[aaaaaaaaa]", 9);
        answers("<aaaaaaaaa>", 1);
        answers("{aaaaaaaaa}", 1);
        answers("F7a", 7);
        answers("S7a", 7);
        answers("L75a", 5);
        answers("Ra", 1);
        answers("V7ab", 1);
        answers("E050a", 5);
        answers("E559a", 5);
        answers("E110a", 1);
        answers("V3F2aF5b", 10);
        answers("{F2aS3b<L14c[de]>}", 48);
    }

    private static void wrongPlaces() {
        wrongAt("", 0);
        wrongAt("A", 0);
        wrongAt("]", 0);
        wrongAt("1", 0);
        wrongAt("`", 0);
        wrongAt("ab", 1);
        wrongAt("~~", 1);
        wrongAt("[ab]]", 4);
        wrongAt("[", 1);
        wrongAt("[]", 1);
        wrongAt("<>", 1);
        wrongAt("{}", 1);
        wrongAt("[a", 2);
        wrongAt("[a>", 2);
        wrongAt("<a}", 2);
        wrongAt("{a]", 2);
        wrongAt("[aaaaaaaaaa]", 10);
        wrongAt("<aaaaaaaaa[", 10);
        wrongAt("{aaaaaaaaa", 10);
        wrongAt("{aaaaaaaa[ab]R", 13);
        wrongAt("F", 1);
        wrongAt("F0a", 1);
        wrongAt("S0a", 1);
        wrongAt("F:a", 1);
        wrongAt("S/a", 1);
        wrongAt("F1", 2);
        wrongAt("F12a", 2);
        wrongAt("L", 1);
        wrongAt("L0", 1);
        wrongAt("L10a", 2);
        wrongAt("L1", 2);
        wrongAt("L12", 3);
        wrongAt("R", 1);
        wrongAt("R1", 1);
        wrongAt("V0ab", 1);
        wrongAt("V3a", 3);
        wrongAt("V3abc", 4);
        wrongAt("E", 1);
        wrongAt("Ea", 1);
        wrongAt("E0", 2);
        wrongAt("E00", 2);
        wrongAt("E540a", 2);
        wrongAt("E5a", 2);
        wrongAt("E55a", 3);
        wrongAt("E559", 4);
        wrongAt("E5599", 4);
        wrongAt("R".repeat(40), 40);
        wrongAt("[".repeat(40), 40);
        answers("R".repeat(39) + "a", 1);
        answers("[".repeat(19) + "a" + "]".repeat(19), 1);
        answers("{".repeat(19) + "a" + "}".repeat(19), 1);
    }

    private static void slots() {
        CyclePatterns x = new CyclePatterns();
        Check.type(x, "[ab]");
        for (int slot : new int[] {-1, 8, Integer.MIN_VALUE, Integer.MAX_VALUE}) {
            Check.due("define of slot " + slot, x.define(slot), CyclePatterns.BAD);
        }
        Check.due("the buffer stays", x.define(7), 2);
        Check.due("then it is empty", x.define(7), -100);
        Check.due("the slot stays when it is wrong", x.query(7, 0, 1, 1), 2);
        Check.due("wrong", Check.define(x, 7, "ab"), -101);
        Check.due("empty when it was wrong", Check.define(x, 6, "c"), 1);
        Check.due("other slots stay", x.query(7, 0, 1, 1), 2);
    }

    private static void tooFine() {
        answers("F7F8F9[aaaaa]S2b", -113);
        answers("F7F8F9[aaaaaaaaaa]", -116);
        answers("F7F8F9F9a", 4536);
        answers("F7F8F9S5L12a", 5040);
        answers("F7F8F9E450S2a", 5040);
        answers("S7S8S9[aaaaa]", 2520);
        answers("F7F8F9S9L12a", CyclePatterns.FULL);
        answers("F9".repeat(19) + "a", CyclePatterns.FULL);
        answers("F8".repeat(19) + "~", CyclePatterns.FULL);
        answers("F4".repeat(19) + "a", CyclePatterns.FULL);
        answers("F9".repeat(19) + "A", -138);
        answers("F9".repeat(19) + "ab", -139);

        CyclePatterns x = Check.with("[ab]");
        Check.due("too fine", Check.define(x, 0, "F9F9F9F9a"), CyclePatterns.FULL);
        Check.due("the slot stays", x.query(0, 0, 1, 1), 2);
        Check.due("the buffer is empty", x.define(0), -100);
    }

    private static void endsPlaying() {
        endsPlayingWith("b", 1);
        endsPlayingWith("", -100);
        endsPlayingWith("bb", -101);
        endsPlayingWith("F9F9F9F9a", CyclePatterns.FULL);

        CyclePatterns x = Check.with("a");
        x.play(1, 1, 1);
        x.advance(500);
        Check.due("BAD", x.define(8), CyclePatterns.BAD);
        Check.due("tick after BAD", x.tick(), 500);
        Check.due("due after BAD", x.due(0, 2), 'a');
        Check.due("advance after BAD", x.advance(1), 0);
    }

    private static void endsPlayingWith(String text, int want) {
        CyclePatterns x = Check.with("a");
        x.play(1, 1, 1);
        Check.due("advance", x.advance(500), 1);
        Check.due("define of " + text, Check.define(x, 5, text), want);
        Check.due("tick after define of " + text, x.tick(), 0);
        Check.due("due after define of " + text, x.due(0, 0), CyclePatterns.BAD);
        Check.due("advance after define of " + text, x.advance(1), CyclePatterns.BAD);
    }
}
