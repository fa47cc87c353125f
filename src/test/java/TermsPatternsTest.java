/** Terms: what each kind of pattern has in a span, and its edges. */
public final class TermsPatternsTest {
    public static void main(String[] args) {
        Check.test("a cycle is any whole number, also below 0", TermsPatternsTest::cyclesBelowZero);
        Check.test("the parts are of each event whose whole meets the span, what is in both", TermsPatternsTest::parts);
        Check.test("no part is empty, also where a pattern is cut", TermsPatternsTest::noEmptyParts);
        Check.test("what stands in different cycles are different events", TermsPatternsTest::differentEvents);
        Check.test("~ has no events", TermsPatternsTest::rest);
        Check.test("a letter a .. z: an event in each cycle", TermsPatternsTest::letters);
        Check.test("[ ]: cycle c of pattern i, shrunk to its step", TermsPatternsTest::steps);
        Check.test("[ ]: also for what of a whole lies outside the cycle", TermsPatternsTest::wholesOfSteps);
        Check.test("< >: cycle c is cycle q of pattern i", TermsPatternsTest::turns);
        Check.test("< >: moved there with its wholes", TermsPatternsTest::wholesOfTurns);
        Check.test("{ }: all of them together", TermsPatternsTest::together);
        Check.test("F k: time t comes at t / k", TermsPatternsTest::faster);
        Check.test("S k: time t comes at t k", TermsPatternsTest::slower);
        Check.test("L k m: time t comes at t + k / m", TermsPatternsTest::later);
        Check.test("R: each cycle runs backwards", TermsPatternsTest::backwards);
        Check.test("R: wholes likewise (what ends there begins here)", TermsPatternsTest::wholesBackwards);
        Check.test("V k: the first one if c is a multiple of k, else the second one", TermsPatternsTest::everyKth);
        Check.test("E k n r: step j is the pattern if ((j + r) k) modulo n is less than k", TermsPatternsTest::euclid);
        Check.test("E: every k 0 .. n, n 1 .. 9, r 0 .. 9", TermsPatternsTest::everyEuclid);
        Check.test("only what lies in that cycle (or step) counts there: [ ] < > R V E cut", TermsPatternsTest::cut);
        Check.test("F S L { } do not cut", TermsPatternsTest::uncut);
        Check.end();
    }

    private static void cyclesBelowZero() {
        Check.findsWholes("a", -1, 1, "a -1..0, a 0..1");
        Check.findsWholes("a", -1000, -999, "a -1000..-999");
        Check.findsWholes("[ab]", -1, 0, "a -2..-1, b -1..0");
        Check.findsWholes("<abc>", -4, 1, "c -4..-3, a -3..-2, b -2..-1, c -1..0, a 0..1");
        Check.findsWholes("<abcdefg>", -1000, -998, "b -1000..-999, c -999..-998");
        Check.findsWholes("<a<bc>>", -4, 0, "a -4..-3, b -3..-2, a -2..-1, c -1..0");
        Check.findsWholes("{ab}", -1, 0, "a -1..0, b -1..0");
        Check.findsWholes("F2<ab>", -1, 0, "a -2..-1, b -1..0");
        Check.findsWholes("S2<ab>", -4, 0, "a -8..-4, b -4..0");
        Check.findsWholes("L11<ab>", -2, 0, "b -2..-1, a -1..0");
        Check.findsWholes("R[a~b]", -1, 0, "b -3..-2, a -1..0");
        Check.findsWholes("V3ab", -7, -2, "b -7..-6, a -6..-5, b -5..-4, b -4..-3, a -3..-2");
        Check.findsWholes("E130<ab>", -1, 1, "b -3..-2, a 0..1");
        Check.finds("[S2a]", -1, 0, "a -2..0 of -4..0");
    }

    private static void parts() {
        CyclePatterns x = Check.with("a");
        Check.due("from 0 to 1", x.query(0, 0, 1, 1), 1);
        Check.due("what ends or begins there is not in it", Check.found(x), "a 0..1 of 0..1");
        x.query(0, 1, 2, 3);
        Check.due("within a whole", Check.found(x), "a 1..2 of 0..3");
        x.query(0, 2, 4, 3);
        Check.due("across two", Check.found(x), "a 2..3 of 0..3, a 3..4 of 3..6");
        x.query(0, -75, -25, 50);
        Check.due("below 0", Check.found(x), "a -75..-50 of -100..-50, a -50..-25 of -50..0");
        CyclePatterns y = Check.with("[ab]", "R[ab]");
        y.query(0, 1, 2, 2);
        Check.due("only the second step", Check.found(y), "b 2..4 of 2..4");
        y.query(1, 1, 2, 2);
        Check.due("the second step backwards", Check.found(y), "a 2..4 of 2..4");
        y.query(0, 49, 51, 50);
        Check.due("the last bit of one and the first of another", Check.found(y),
                "b 98..100 of 50..100, a 100..102 of 100..150");
    }

    private static void noEmptyParts() {
        for (String text : new String[] {"[aL12b]", "[aRL12b]", "E120{aL12~}", "[aS3b]"}) {
            CyclePatterns x = Check.with(text);
            Check.due(text + " to where its second step begins", x.query(0, 0, 1, 2), 1);
            Check.due("its letter", x.part(0, 4), 'a');
        }
        for (String text : new String[] {"[L12ba]", "[RL12ba]", "[S3ba]"}) {
            CyclePatterns x = Check.with(text);
            Check.due(text + " from where its second step begins", x.query(0, 1, 2, 2), 1);
            Check.due("its letter", x.part(0, 4), 'a');
        }
        for (String text : new String[] {"<aL12b>", "V2aL12b"}) {
            Check.findsWholes(text, 0, 1, "a 0..2");
            Check.findsWholes(text, 2, 3, "a 4..6");
        }
    }

    private static void differentEvents() {
        Check.finds("S2a", 0, 2, "a 0..4 of 0..4");
        Check.finds("[S2a]", 0, 2, "a 0..2 of 0..4, a 2..4 of 0..4");
        Check.findsWholes("a", 0, 3, "a 0..1, a 1..2, a 2..3");
        Check.findsWholes("S2a", 0, 4, "a 0..4, a 4..8");
        Check.findsWholes("[aa]", 0, 1, "a 0..1, a 1..2");
        Check.findsWholes("{aa}", 0, 1, "a 0..1, a 0..1");
    }

    private static void rest() {
        Check.finds("~", -8, 8, "");
        Check.findsWholes("[~a]", 0, 1, "a 1..2");
        Check.findsWholes("[a~]", 0, 1, "a 0..1");
        Check.findsWholes("<~a>", 0, 3, "a 1..2");
        Check.findsWholes("{~a}", 0, 1, "a 0..1");
        Check.finds("F9S9L99RV1~E110~", 0, 16, "");
    }

    private static void letters() {
        for (char letter = 'a'; letter <= 'z'; letter++) {
            Check.findsWholes(String.valueOf(letter), 7, 9, letter + " 7..8, " + letter + " 8..9");
        }
    }

    private static void steps() {
        Check.findsWholes("[a]", 0, 2, "a 0..1, a 1..2");
        Check.findsWholes("[a~b]", 0, 1, "a 0..1, b 2..3");
        Check.findsWholes("[<ab><cd>]", 0, 2, "a 0..1, c 1..2, b 2..3, d 3..4");
        Check.findsWholes("[[ab]c]", 1, 2, "a 4..5, b 5..6, c 6..8");
        Check.findsWholes("[abcdefghi]", 0, 1, "a 0..1, b 1..2, c 2..3, d 3..4, e 4..5, f 5..6, g 6..7, h 7..8, i 8..9");
    }

    private static void wholesOfSteps() {
        Check.finds("[S2ab]", 0, 2, "a 0..2 of 0..4, b 2..4 of 2..4, a 4..6 of 2..6, b 6..8 of 6..8");
        Check.finds("[aS2b]", 0, 2, "a 0..2 of 0..2, b 2..4 of 2..6, a 4..6 of 4..6, b 6..8 of 4..8");
        Check.finds("[L12ab]", 0, 1, "a 0..1 of -1..1, a 1..2 of 1..3, b 2..4 of 2..4");
        Check.finds("E121S2a", 0, 2, "a 2..4 of 2..6, a 6..8 of 4..8");
    }

    private static void turns() {
        Check.findsWholes("<a>", 0, 2, "a 0..1, a 1..2");
        Check.findsWholes("<ab~>", -3, 3, "a -3..-2, b -2..-1, a 0..1, b 1..2");
        Check.findsWholes("<a<bc>>", 0, 4, "a 0..1, b 1..2, a 2..3, c 3..4");
        Check.findsWholes("<abcdefghi>", 7, 10, "h 7..8, i 8..9, a 9..10");
        Check.findsWholes("<abcdefghi>", -2, 1, "h -2..-1, i -1..0, a 0..1");
    }

    private static void wholesOfTurns() {
        Check.finds("<S2a>", 0, 2, "a 0..2 of 0..4, a 2..4 of 0..4");
        Check.finds("<S2ab>", 0, 4, "a 0..2 of 0..4, b 2..4 of 2..4, a 4..6 of 2..6, b 6..8 of 6..8");
        Check.finds("<bS2a>", -2, 2, "b -4..-2 of -4..-2, a -2..0 of -4..0, b 0..2 of 0..2, a 2..4 of 2..6");
    }

    private static void together() {
        Check.findsWholes("{a}", 0, 1, "a 0..1");
        Check.findsWholes("{ba}", 0, 2, "a 0..1, b 0..1, a 1..2, b 1..2");
        Check.findsWholes("{abcdefghi}", 3, 4,
                "a 3..4, b 3..4, c 3..4, d 3..4, e 3..4, f 3..4, g 3..4, h 3..4, i 3..4");
    }

    private static void faster() {
        Check.findsWholes("F1a", 0, 2, "a 0..1, a 1..2");
        Check.findsWholes("F2<ab>", 0, 1, "a 0..1, b 1..2");
        Check.findsWholes("F9<abcdefghi>", 0, 1,
                "a 0..1, b 1..2, c 2..3, d 3..4, e 4..5, f 5..6, g 6..7, h 7..8, i 8..9");
    }

    private static void slower() {
        Check.findsWholes("S1a", 0, 2, "a 0..1, a 1..2");
        Check.findsWholes("S2<ab>", -2, 2, "b -4..0, a 0..4");
        Check.finds("S9<ab>", 8, 10, "a 72..81 of 0..81, b 81..90 of 81..162");
    }

    private static void later() {
        Check.finds("L12a", 0, 1, "a 0..1 of -1..1, a 1..2 of 1..3");
        Check.finds("L19<ab>", 0, 1, "b 0..1 of -8..1, a 1..9 of 1..10");
        Check.finds("L92<ab>", 0, 1, "b 0..1 of -1..1, a 1..2 of 1..3");
        Check.findsWholes("L91<ab>", 0, 2, "b 0..1, a 1..2");
        Check.findsWholes("L11<abc>", 0, 2, "c 0..1, a 1..2");
        Check.findsWholes("L99<ab>", 0, 1, "b 0..9");
        Check.finds("S2L12<ab>", 0, 2, "b 0..4 of -4..4, a 4..8 of 4..12");
    }

    private static void backwards() {
        Check.findsWholes("Ra", 0, 2, "a 0..1, a 1..2");
        Check.findsWholes("R[a~b]", 0, 1, "b 0..1, a 2..3");
        Check.findsWholes("R<ab>", -1, 1, "b -1..0, a 0..1");
        Check.findsWholes("RR[abc]", 5, 6, "a 15..16, b 16..17, c 17..18");
        Check.findsWholes("[R[ab]c]", 0, 1, "b 0..1, a 1..2, c 2..4");
    }

    private static void wholesBackwards() {
        Check.finds("RL14a", 0, 1, "a 0..3 of -1..3, a 3..4 of 3..7");
        Check.finds("RS2a", 0, 2, "a 0..2 of -2..2, a 2..4 of 2..6");
        Check.finds("RRS2a", 0, 2, "a 0..2 of 0..4, a 2..4 of 0..4");
        Check.finds("RS3a", 0, 3, "a 0..3 of -6..3, a 3..6 of 0..9, a 6..9 of 6..15");
    }

    private static void everyKth() {
        Check.findsWholes("V1ab", -2, 2, "a -2..-1, a -1..0, a 0..1, a 1..2");
        Check.findsWholes("V2ab", -3, 1, "b -3..-2, a -2..-1, b -1..0, a 0..1");
        Check.findsWholes("V9ab", 8, 11, "b 8..9, a 9..10, b 10..11");
        Check.findsWholes("V9ab", -10, -7, "b -10..-9, a -9..-8, b -8..-7");
        Check.findsWholes("V9ab", -1, 2, "b -1..0, a 0..1, b 1..2");
        Check.findsWholes("V2<ab><cd>", 0, 4, "a 0..1, d 1..2, a 2..3, d 3..4");
    }

    private static void euclid() {
        Check.findsWholes("E350a", 0, 1, "a 0..1, a 2..3, a 4..5");
        Check.findsWholes("E351a", 0, 1, "a 1..2, a 3..4, a 4..5");
        Check.findsWholes("E356a", 0, 1, "a 1..2, a 3..4, a 4..5");
        Check.findsWholes("E380a", 0, 1, "a 0..1, a 3..4, a 6..7");
        Check.findsWholes("E188a", 0, 1, "a 0..1");
        Check.findsWholes("E189a", 0, 1, "a 7..8");
        Check.finds("E050a", 0, 1, "");
        Check.findsWholes("E110a", 0, 1, "a 0..1");
        Check.findsWholes("E223<ab>", 0, 2, "a 0..1, a 1..2, b 2..3, b 3..4");
    }

    private static void everyEuclid() {
        for (int n = 1; n <= 9; n++) {
            for (int k = 0; k <= n; k++) {
                for (int r = 0; r <= 9; r++) {
                    StringBuilder want = new StringBuilder();
                    for (int j = 0; j < n; j++) {
                        if ((j + r) * k % n < k) {
                            want.append(want.length() == 0 ? "" : ", ").append("a ").append(j).append("..").append(j + 1);
                        }
                    }
                    Check.findsWholes("E" + k + n + r + "a", 0, 1, want.toString());
                }
            }
        }
    }

    private static void cut() {
        Check.finds("[S2a]", 0, 2, "a 0..2 of 0..4, a 2..4 of 0..4");
        Check.finds("<S2a>", 0, 2, "a 0..2 of 0..4, a 2..4 of 0..4");
        Check.finds("RS2a", 0, 2, "a 0..2 of -2..2, a 2..4 of 2..6");
        Check.finds("V1S2ab", 0, 2, "a 0..2 of 0..4, a 2..4 of 0..4");
        Check.finds("V2S2ab", 0, 3, "a 0..2 of 0..4, b 2..4 of 2..4, a 4..6 of 4..8");
        Check.finds("V2aS2b", 0, 2, "a 0..2 of 0..2, b 2..4 of 0..4");
        Check.finds("E110S2a", 0, 2, "a 0..2 of 0..4, a 2..4 of 0..4");
        Check.finds("E120S2a", 0, 2, "a 0..2 of 0..4, a 4..6 of 2..6");
        Check.finds("F2[S2a]", 0, 1, "a 0..2 of 0..4, a 2..4 of 0..4");
        Check.finds("S2[S2a]", 0, 4, "a 0..8 of 0..16, a 8..16 of 0..16");
        Check.finds("L11[S2a]", 0, 2, "a 0..2 of -2..2, a 2..4 of 2..6");
        Check.finds("[L12[S2a]]", 0, 1, "a 0..2 of -6..2, a 2..4 of 2..10");
    }

    private static void uncut() {
        Check.finds("F1S2a", 0, 2, "a 0..4 of 0..4");
        Check.finds("F2S4a", 0, 2, "a 0..16 of 0..16");
        Check.finds("S2S2a", 0, 4, "a 0..16 of 0..16");
        Check.finds("L21S2a", 0, 2, "a 0..4 of 0..4");
        Check.finds("{S2a}", 0, 2, "a 0..4 of 0..4");
        Check.finds("{S3aS2b}", 0, 2, "b 0..12 of 0..12, a 0..12 of 0..18");
    }
}
