/** Terms: parts are in order; for each key, a case in which all later keys would tell otherwise. */
public final class TermsOrderTest {
    public static void main(String[] args) {
        Check.test("by their beginnings", TermsOrderTest::beginnings);
        Check.test("then by those of their wholes", TermsOrderTest::beginningsOfWholes);
        Check.test("then by ends of parts", TermsOrderTest::ends);
        Check.test("then of wholes", TermsOrderTest::endsOfWholes);
        Check.test("then by letters", TermsOrderTest::letters);
        Check.test("all keys together", TermsOrderTest::together);
        Check.test("the order of many", TermsOrderTest::many);
        Check.end();
    }

    private static void beginnings() {
        Check.finds("{z[~S3a]}", 2, 3, "z 12..18 of 12..18, a 15..18 of 9..18");
        Check.finds("{[~S3a]z}", 2, 3, "z 12..18 of 12..18, a 15..18 of 9..18");
        Check.findsWholes("{aL11b}", -2, 0, "a -2..-1, b -2..-1, a -1..0, b -1..0");
    }

    private static void beginningsOfWholes() {
        Check.finds("{F2aL11S2z}", 0, 1, "z 0..4 of -4..4, a 0..2 of 0..2, a 2..4 of 2..4");
        Check.finds("{L11S2zF2a}", 0, 1, "z 0..4 of -4..4, a 0..2 of 0..2, a 2..4 of 2..4");
    }

    private static void ends() {
        Check.finds("{a[S9z~]}", 0, 1, "z 0..9 of 0..81, a 0..18 of 0..18");
        Check.finds("{[S9z~]a}", 0, 1, "z 0..9 of 0..81, a 0..18 of 0..18");
    }

    private static void endsOfWholes() {
        Check.finds("{S2az}", 0, 1, "z 0..2 of 0..2, a 0..2 of 0..4");
        Check.finds("{zS2a}", 0, 1, "z 0..2 of 0..2, a 0..2 of 0..4");
    }

    private static void letters() {
        Check.findsWholes("{ab}", 0, 1, "a 0..1, b 0..1");
        Check.findsWholes("{ba}", 0, 1, "a 0..1, b 0..1");
        Check.findsWholes("{zmaymz}", 0, 1, "a 0..1, m 0..1, m 0..1, y 0..1, z 0..1, z 0..1");
    }

    private static void together() {
        Check.finds("{cS2baL12zF2d}", 0, 1,
                "z 0..4 of -4..4, d 0..4 of 0..4, a 0..8 of 0..8, c 0..8 of 0..8, b 0..8 of 0..16, "
                        + "d 4..8 of 4..8, z 4..8 of 4..12");
    }

    /** Two hundred parts that are heard pattern by pattern, far from their order. */
    private static void many() {
        for (int first = 0; first < 199; first += 40) {
            CyclePatterns x = Check.with("{F9<zyx>F8<wvu>F8<tsr>}");
            Check.due("200 parts", x.query(0, -4, 4, 1), 200);
            for (int i = first; i < Math.min(first + 40, 199); i++) {
                Check.due("part " + i + " comes before the next one", comesBefore(x, i, i + 1), true);
            }
        }
    }

    private static boolean comesBefore(CyclePatterns x, int one, int other) {
        for (int what : new int[] {0, 2, 1, 3, 4}) {
            if (x.part(one, what) != x.part(other, what)) {
                return x.part(one, what) < x.part(other, what);
            }
        }
        return true;
    }
}
