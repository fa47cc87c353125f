/** Promise 4: query: what each kind of pattern has in a span, its order and its limits. */
public final class Promise04QueryTest {
    public static void main(String[] args) {
        kinds();
        cuts();
        order();
        badArguments();
        many();
        fartherWholes();
        Check.end();
    }

    private static void finds(String text, int a, int b, String want) {
        Check.due(text + " from " + a + " to " + b, Check.parts(text, a, b), want);
    }

    private static void kinds() {
        finds("~", 0, 3, "");
        finds("a", -1, 1, "a -1..0 of -1..0, a 0..1 of 0..1");
        finds("[a~b]", 0, 1, "a 0..1 of 0..1, b 2..3 of 2..3");
        finds("<ab~>", -3, 3, "a -3..-2 of -3..-2, b -2..-1 of -2..-1, a 0..1 of 0..1, b 1..2 of 1..2");
        finds("<a<bc>>", 0, 4, "a 0..1 of 0..1, b 1..2 of 1..2, a 2..3 of 2..3, c 3..4 of 3..4");
        finds("{ba}", 0, 1, "a 0..1 of 0..1, b 0..1 of 0..1");
        finds("F2<ab>", 0, 1, "a 0..1 of 0..1, b 1..2 of 1..2");
        finds("S2<ab>", -2, 2, "b -4..0 of -4..0, a 0..4 of 0..4");
        finds("L12a", 0, 1, "a 0..1 of -1..1, a 1..2 of 1..3");
        finds("L31<ab>", 0, 2, "b 0..1 of 0..1, a 1..2 of 1..2");
        finds("R[a~b]", 0, 1, "b 0..1 of 0..1, a 2..3 of 2..3");
        finds("R<ab>", -1, 1, "b -1..0 of -1..0, a 0..1 of 0..1");
        finds("V2ab", -3, 1, "b -3..-2 of -3..-2, a -2..-1 of -2..-1, b -1..0 of -1..0, a 0..1 of 0..1");
        finds("V1ab", -1, 1, "a -1..0 of -1..0, a 0..1 of 0..1");
        finds("V9ab", 8, 10, "b 8..9 of 8..9, a 9..10 of 9..10");
        finds("E350a", 0, 1, "a 0..1 of 0..1, a 2..3 of 2..3, a 4..5 of 4..5");
        finds("E351a", 0, 1, "a 1..2 of 1..2, a 3..4 of 3..4, a 4..5 of 4..5");
        finds("E050a", 0, 1, "");
        finds("E223<ab>", 0, 2, "a 0..1 of 0..1, a 1..2 of 1..2, b 2..3 of 2..3, b 3..4 of 3..4");
    }

    private static void cuts() {
        finds("S2a", 0, 2, "a 0..4 of 0..4");
        finds("[S2a]", 0, 2, "a 0..2 of 0..4, a 2..4 of 0..4");
        finds("<S2a>", 0, 2, "a 0..2 of 0..4, a 2..4 of 0..4");
        finds("{S2a}", 0, 2, "a 0..4 of 0..4");
        finds("L11S2a", 0, 2, "a 0..2 of -2..2, a 2..4 of 2..6");
        finds("RS2a", 0, 2, "a 0..2 of -2..2, a 2..4 of 2..6");
        finds("V1S2ab", 0, 2, "a 0..2 of 0..4, a 2..4 of 0..4");
        finds("E110S2a", 0, 2, "a 0..2 of 0..4, a 2..4 of 0..4");
        finds("<S2ab>", 0, 4, "a 0..2 of 0..4, b 2..4 of 2..4, a 4..6 of 2..6, b 6..8 of 6..8");
        finds("F2[S2a]", 0, 1, "a 0..2 of 0..4, a 2..4 of 0..4");
        finds("[L12ab]", 0, 1, "a 0..1 of -1..1, a 1..2 of 1..3, b 2..4 of 2..4");
        finds("RL14a", 0, 1, "a 0..3 of -1..3, a 3..4 of 3..7");
        CyclePatterns x = Check.with("a");
        Check.due("a narrow span", x.query(0, 7, 8, 50), 1);
        Check.due("its part", Check.found(x), "a 7..8 of 0..50");
        Check.due("a span below 0", x.query(0, -75, -25, 50), 2);
        Check.due("its parts", Check.found(x), "a -75..-50 of -100..-50, a -50..-25 of -50..0");
    }

    private static void order() {
        finds("{cS2baL12zF2d}", 0, 1,
                "z 0..4 of -4..4, d 0..4 of 0..4, a 0..8 of 0..8, c 0..8 of 0..8, b 0..8 of 0..16, "
                        + "d 4..8 of 4..8, z 4..8 of 4..12");
        finds("{aa}", 0, 1, "a 0..1 of 0..1, a 0..1 of 0..1");
    }

    private static void badArguments() {
        CyclePatterns x = Check.with("a");
        Check.due("ordinary", x.query(0, 0, 2, 1), 2);
        int[][] bad = {
            {-1, 0, 1, 1}, {8, 0, 1, 1}, {Integer.MIN_VALUE, 0, 1, 1}, {0, 0, 1, 0}, {0, 0, 1, 51}, {0, 0, 1, -1},
            {0, 1, 1, 1}, {0, 2, 1, 1}, {0, 0, 17, 1}, {0, 0, 33, 2}, {0, -1001, -1000, 1}, {0, 1000, 1001, 1},
            {0, -50001, -49999, 50}, {0, 49999, 50001, 50}, {0, Integer.MIN_VALUE, Integer.MAX_VALUE, 1},
            {0, Integer.MAX_VALUE, Integer.MIN_VALUE, 1}, {0, 0, Integer.MAX_VALUE, 50},
            {0, Integer.MIN_VALUE, 0, 50}, {0, 0, 1, Integer.MAX_VALUE}, {0, 0, 1, Integer.MIN_VALUE},
        };
        for (int[] b : bad) {
            Check.due("query(" + b[0] + ", " + b[1] + ", " + b[2] + ", " + b[3] + ")",
                    x.query(b[0], b[1], b[2], b[3]), CyclePatterns.BAD);
        }
        Check.due("what was found stays", Check.found(x), "a 0..1 of 0..1, a 1..2 of 1..2");
        Check.due("the lowest", x.query(0, -1000, -984, 1), 16);
        Check.due("the highest", x.query(0, 984, 1000, 1), 16);
        Check.due("the lowest, fine", x.query(0, -50000, -49999, 50), 1);
        Check.due("the highest, fine", x.query(0, 49200, 50000, 50), 16);
        Check.due("the last slot", x.query(7, 0, 1, 1), 0);
    }

    private static void many() {
        CyclePatterns x = Check.with("F5[aaaaa]", "{F9F9aF5F9b}", "F9F9F9F6~", "F4F9[S9S9a]");
        Check.due("200 parts", x.query(0, 0, 8, 1), 200);
        Check.due("the last of them", x.part(199, 1), 200);
        Check.due("201 parts", x.query(0, 0, 201, 25), CyclePatterns.MANY);
        Check.due("nothing is found", x.part(0, 0), CyclePatterns.BAD);
        Check.due("nor is an onset", x.onsets(), 0);
        Check.due("126 parts", x.query(1, 0, 1, 1), 126);
        Check.due("some more", x.query(1, 0, 50, 49), 129);
        Check.due("252 parts", x.query(1, 0, 2, 1), CyclePatterns.MANY);
        Check.due("rests are no parts", x.query(2, 0, 16, 1), 0);
        Check.due("parts of one whole", x.query(3, 0, 6, 1), CyclePatterns.MANY);
        Check.due("fewer of them", x.query(3, 0, 5, 1), 180);
    }

    private static void fartherWholes() {
        CyclePatterns x = Check.with("S9S8S7S9a", "<~<~<~<~a>>>>");
        Check.due("one long whole", x.query(0, 49200, 50000, 50), 1);
        Check.due("begins here", x.part(0, 0), 984 * 50 * 4536);
        Check.due("its whole begins", x.part(0, 2), 0);
        Check.due("its whole ends", x.part(0, 3), 4536 * 50 * 4536);
        Check.due("below 0", x.query(0, -1, 1, 50), 2);
        Check.due("its whole begins", x.part(0, 2), -4536 * 50 * 4536);
        Check.due("one cycle of sixteen", x.query(1, -16, 0, 1), 1);
        Check.due("which one", x.part(0, 0), -1);
    }
}
