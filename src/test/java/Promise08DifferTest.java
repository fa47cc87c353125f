/** Promise 8: differ. */
public final class Promise08DifferTest {
    /** An a, but in one cycle of 32, the last one, something else. */
    private static final String ONCE_IN_32 = "<a<a<a<a<a?>>>>>";
    private static final String MANY_PARTS = "F9F5F5b";

    public static void main(String[] args) {
        Check.test("the first cycle in which the parts differ", Promise08DifferTest::ordinary);
        Check.test("the parts differ by any of their five numbers, or by how many they are", Promise08DifferTest::anyNumber);
        Check.test("times are compared, whatever the grains", Promise08DifferTest::grains);
        Check.test("of the cycles 0 .. 15", Promise08DifferTest::cycles);
        Check.test("-1 when there is none", Promise08DifferTest::none);
        Check.test("MANY when there are more than 200 in one of them", Promise08DifferTest::tooMany);
        Check.test("too many in cycle 15 count, in cycle 16 not", Promise08DifferTest::cyclesOfTooMany);
        Check.test("... before that: a difference in an earlier cycle comes first", Promise08DifferTest::differenceFirst);
        Check.test("MANY also where they differ in that very cycle", Promise08DifferTest::sameCycle);
        Check.test("-9 when there are no such slots", Promise08DifferTest::noSuchSlots);
        Check.test("the deepest patterns", Promise08DifferTest::deepest);
        Check.test("differ changes nothing", Promise08DifferTest::changesNothing);
        Check.end();
    }

    private static void compares(String one, String other, int want) {
        CyclePatterns x = Check.with(one, other);
        Check.due("differ of " + one + " and " + other, x.differ(0, 1), want);
        Check.due("differ of " + other + " and " + one, x.differ(1, 0), want);
    }

    /** As ONCE_IN_32, the other thing being in cycle c (c is 0 .. 17). */
    private static String onceIn(int c, String other) {
        StringBuilder text = new StringBuilder();
        for (int later = c + 1; later > 0; later -= Math.min(later, 9)) {
            text.append('L').append(Math.min(later, 9)).append('1');
        }
        return text + ONCE_IN_32.replace("?", other);
    }

    private static void ordinary() {
        compares("a", "b", 0);
        compares("a", "~", 0);
        compares("<ab>", "a", 1);
        compares("V9a<bbbc>", "V9ab", 3);
        compares("<abc>", "<abd>", 2);
    }

    private static void anyNumber() {
        compares("V2a[~S2a]", "a", 1);
        compares("[S2a~]", "a", 0);
        compares("RS2a", "a", 0);
        compares("S2a", "a", 0);
        compares("a", "b", 0);
        compares("a", "{aa}", 0);
        compares("a", "[aa]", 0);
        compares("[a~]", "[~a]", 0);
        compares("S2a", "L11S2a", 0);
        compares("RS2a", "[S2a]", 0);
        compares("L12a", "a", 0);
        compares("[ab]", "[ba]", 0);
        compares("{S2aS3b}", "{S3aS2b}", 0);
        compares("<aS2a>", "a", 1);
    }

    private static void grains() {
        compares("F3S3[abc]", "[abc]", -1);
        compares("F7F8F9S5L22a", "F7F8F9S5L11a", -1);
        compares("F7F8F9S5L12a", "F7F8F9S5L22a", 0);
        compares("F6a", "F2F3a", -1);
        compares("F2S2a", "F3S3a", -1);
        compares("F4S4[ab]", "F3S3[ab]", -1);
        compares("F9S9F7S7a", "F8S8F8S8a", -1);
        compares("F9S9F7S7a", "F8S8F8S8b", 0);
        compares("[S2a]", "S2a", -1);
    }

    private static void cycles() {
        for (int c = 0; c <= 15; c++) {
            compares(onceIn(c, "b"), "a", c);
        }
        compares(onceIn(16, "b"), "a", -1);
        compares(onceIn(17, "b"), "a", -1);
        compares(ONCE_IN_32.replace("?", "b"), "a", -1);
    }

    private static void none() {
        compares("~", "~", -1);
        compares("a", "a", -1);
        compares("RR[ab<cd>]", "[ab<cd>]", -1);
        compares("{ab}", "{ba}", -1);
        compares("L11<ab>", "<ba>", -1);
        compares("E449a", "F4a", -1);
        compares("E449a", "[aaaa]", -1);
        compares("~", "E050a", -1);
        compares("V9ab", "<abbbbbbbb>", -1);
        CyclePatterns x = Check.with("[ab<cd>]");
        Check.due("of a slot and itself", x.differ(0, 0), -1);
    }

    private static void tooMany() {
        compares("F5F5F8a", "F8F5F5a", -1);
        compares("F5F5F8a", "F5F5F8b", 0);
        compares("{F5F5F8aa}", "{aF5F5F8a}", CyclePatterns.MANY);
        compares("{F5F5F8aa}", "F5F5F8a", CyclePatterns.MANY);
        CyclePatterns x = Check.with("F5F5F8a", "{F5F5F8aa}");
        Check.due("200 of a slot and itself", x.differ(0, 0), -1);
        Check.due("201 of a slot and itself", x.differ(1, 1), CyclePatterns.MANY);
    }

    private static void cyclesOfTooMany() {
        for (int c : new int[] {0, 1, 14, 15}) {
            CyclePatterns x = Check.with(onceIn(c, MANY_PARTS));
            Check.due("too many in cycle " + c, x.differ(0, 0), CyclePatterns.MANY);
        }
        for (int c : new int[] {16, 17}) {
            CyclePatterns x = Check.with(onceIn(c, MANY_PARTS));
            Check.due("too many in cycle " + c, x.differ(0, 0), -1);
            compares(onceIn(c, MANY_PARTS), "a", -1);
        }
        CyclePatterns y = Check.with(ONCE_IN_32.replace("?", MANY_PARTS));
        Check.due("too many in cycle -1", y.differ(0, 0), -1);
    }

    private static void differenceFirst() {
        compares(onceIn(0, MANY_PARTS), "b", CyclePatterns.MANY);
        compares(onceIn(1, MANY_PARTS), "b", 0);
        compares(onceIn(6, MANY_PARTS), "<aaaaab>", 5);
        compares(onceIn(5, MANY_PARTS), "<aaaaaab>", CyclePatterns.MANY);
        compares(onceIn(15, MANY_PARTS), onceIn(14, "b"), 14);
        compares(onceIn(14, MANY_PARTS), onceIn(15, "b"), CyclePatterns.MANY);
    }

    private static void sameCycle() {
        compares(MANY_PARTS, "~", CyclePatterns.MANY);
        compares(MANY_PARTS, "F9F5F5a", CyclePatterns.MANY);
        compares(onceIn(7, MANY_PARTS), "a", CyclePatterns.MANY);
        compares(onceIn(15, MANY_PARTS), onceIn(15, "b"), CyclePatterns.MANY);
    }

    private static void noSuchSlots() {
        CyclePatterns x = Check.with("a");
        int[] wrong = {-1, 8, 9, 255, Integer.MIN_VALUE, Integer.MAX_VALUE};
        for (int slot : wrong) {
            Check.due("differ(" + slot + ", 0)", x.differ(slot, 0), -9);
            Check.due("differ(7, " + slot + ")", x.differ(7, slot), -9);
            Check.due("differ of the two", x.differ(slot, slot), -9);
        }
        Check.due("the last slot", x.differ(0, 7), 0);
        Check.due("the last slot first", x.differ(7, 0), 0);
        Check.due("the last slot and itself", x.differ(7, 7), -1);
    }

    private static void deepest() {
        compares("R".repeat(39) + "a", "R".repeat(38) + "a", -1);
        compares("R".repeat(39) + "a", "~", 0);
    }

    private static void changesNothing() {
        CyclePatterns x = Check.with("a", "[bc]", MANY_PARTS);
        x.play(1, 1, 1);
        x.advance(10);
        x.query(0, 0, 1, 3);
        x.type('a', 1);
        for (int other = 0; other < 9; other++) {
            x.differ(1, other);
        }
        Check.due("found", Check.found(x), "a 0..1 of 0..3");
        Check.due("unit", x.unit(), 3);
        Check.due("due", Check.dueOnsets(x), "0 0 a 1000");
        Check.due("tick", x.tick(), 10);
        Check.due("the buffer", x.type('a', 1), 2);
    }
}
