import java.util.ArrayList;
import java.util.Arrays;
import java.util.Comparator;
import java.util.List;
import java.util.Random;

/** Random runs, the same ones each time, compared with the slow model in fractions. */
public final class ReferenceTest {
    private static final int RUNS = 4000;
    /** The document lets an object be used for so many calls. */
    private static final int MOST_CALLS = 512;
    /** How many of the parts or onsets are looked at, at most, to spare calls. */
    private static final int WINDOW = 30;
    /** No step of a run has more calls than this. */
    private static final int CALLS_OF_A_STEP = 5 * WINDOW + 4;

    private final Random random;
    private int calls;
    private final CyclePatterns x = new CyclePatterns();
    private final String[] texts = new String[8];
    private int mask;
    private int n;
    private int d;
    private int tick;

    private ReferenceTest(long seed) {
        random = new Random(seed);
        Arrays.fill(texts, "~");
    }

    public static void main(String[] args) {
        Check.test("all answers of random runs are the model's", ReferenceTest::randomRuns);
        Check.end();
    }

    private static void randomRuns() {
        for (int run = 0; run < RUNS; run++) {
            new ReferenceTest(run).run();
        }
    }

    private void run() {
        for (int slot = 0; slot < 4; slot++) {
            define(slot, pattern(40, 60));
        }
        while (calls + CALLS_OF_A_STEP <= MOST_CALLS) {
            switch (random.nextInt(8)) {
                case 0: define(random.nextInt(4), random.nextInt(3) == 0 ? damaged(pattern(39, 60)) : pattern(40, 60)); break;
                case 1: case 2: case 3: query(random.nextInt(4)); break;
                case 4: differ(random.nextInt(4), random.nextInt(4)); break;
                case 5: play(); break;
                default: advance(); break;
            }
        }
    }

    // ---- texts

    /** A pattern of at most so many characters, whose grain is likely to be low enough. */
    private String pattern(int room, int fineness) {
        int kind = room < 3 ? 0 : random.nextInt(10);
        int k = 1 + random.nextInt(random.nextInt(4) == 0 ? 9 : 3);
        switch (kind) {
            case 1: case 2: return group('[', ']', room, fineness);
            case 3: return group('<', '>', room, fineness);
            case 4: return group('{', '}', room, fineness);
            case 5: return (random.nextBoolean() ? "F" : "S") + k + pattern(room - 2, fineness / k);
            case 6: return room < 4 ? "a" : "L" + (1 + random.nextInt(9)) + k + pattern(room - 3, fineness / k);
            case 7: return "R" + pattern(room - 1, fineness);
            case 8:
                if (room < 4) {
                    return "b";
                }
                String first = pattern((room - 2) / 2, fineness);
                return "V" + k + first + pattern(room - 2 - first.length(), fineness);
            case 9:
                return room < 5 ? "c" : "E" + random.nextInt(k + 1) + k + random.nextInt(10) + pattern(room - 4, fineness / k);
            default: return random.nextInt(6) == 0 ? "~" : String.valueOf((char) ('a' + random.nextInt(4)));
        }
    }

    private String group(char opening, char closing, int room, int fineness) {
        int patterns = 1 + random.nextInt(Math.min(4, room - 2));
        StringBuilder text = new StringBuilder().append(opening);
        for (int i = 0; i < patterns; i++) {
            int left = room - 1 - text.length() - (patterns - 1 - i);
            text.append(pattern(i == patterns - 1 ? left : 1 + random.nextInt(left), fineness / patterns));
        }
        return text.append(closing).toString();
    }

    private String damaged(String text) {
        int at = random.nextInt(text.length());
        String sign = String.valueOf("[]<>{}FSLRVE0123456789ab~A?".charAt(random.nextInt(27)));
        switch (random.nextInt(4)) {
            case 0: return text.substring(0, at);
            case 1: return text.substring(0, at) + sign + text.substring(at);
            case 2: return text.substring(0, at) + text.substring(at + 1);
            default: return text.substring(0, at) + sign + text.substring(at + 1);
        }
    }

    // ---- calls

    private void define(int slot, String text) {
        int wrong = Reference.wrongPlace(text);
        double grain = wrong < 0 ? Reference.of(text).grain() : 0;
        int want = wrong >= 0 ? -100 - wrong : grain > 5040 ? CyclePatterns.FULL : (int) grain;
        Check.due("define of " + text, Check.define(x, slot, text), want);
        calls += (text.length() + 7) / 8 + 1;
        mask = 0;
        tick = 0;
        if (want > 0) {
            texts[slot] = text;
        }
    }

    private void query(int slot) {
        int split = 1 + random.nextInt(random.nextBoolean() ? 4 : 50);
        int far = random.nextInt(5) == 0 ? 984 : 12;
        int a = random.nextInt(2 * far * split + 1) - far * split;
        int b = a + 1 + random.nextInt((random.nextInt(3) == 0 ? 16 : 3) * split);
        List<Reference.Part> parts = Reference.of(texts[slot]).inOrder(Fraction.of(a, split), Fraction.of(b, split));
        int unit = (int) Reference.of(texts[slot]).grain() * split;
        String name = texts[slot] + " from " + a + "/" + split + " to " + b + "/" + split;
        Check.due("parts of " + name, x.query(slot, a, b, split), parts.size() > 200 ? CyclePatterns.MANY : parts.size());
        Check.due("unit of " + name, x.unit(), unit);
        if (parts.size() > 200) {
            parts.clear();
        }
        int first = random.nextInt(Math.max(1, parts.size() - WINDOW + 2));
        StringBuilder want = new StringBuilder();
        int onsets = 0;
        for (int i = 0; i < parts.size(); i++) {
            Reference.Part part = parts.get(i);
            onsets += part.isOnset() ? 1 : 0;
            if (i >= first && i < first + WINDOW) {
                want.append(want.length() == 0 ? "" : ", ").append(told(part, unit));
            }
        }
        Check.due("what is found of " + name, Check.found(x, first, first + WINDOW), want.toString());
        Check.due("onsets of " + name, x.onsets(), onsets);
        calls += 4 + 5 * Math.min(WINDOW, parts.size() - first);
    }

    private static String told(Reference.Part part, int unit) {
        return part.letter() + " " + counted(part.begin(), unit) + ".." + counted(part.end(), unit)
                + " of " + counted(part.wholeBegin(), unit) + ".." + counted(part.wholeEnd(), unit);
    }

    /** The document says that times unit() all times are whole numbers. */
    private static long counted(Fraction time, int unit) {
        Fraction counted = time.times(unit);
        Check.due("the fraction of a counted time", counted.under(), 1);
        return counted.over();
    }

    private void differ(int one, int other) {
        Reference first = Reference.of(texts[one]);
        Reference second = Reference.of(texts[other]);
        int want = -1;
        for (int c = 0; c < 16 && want == -1; c++) {
            List<Reference.Part> ofFirst = first.inOrder(Fraction.of(c), Fraction.of(c + 1));
            List<Reference.Part> ofSecond = second.inOrder(Fraction.of(c), Fraction.of(c + 1));
            if (ofFirst.size() > 200 || ofSecond.size() > 200) {
                want = CyclePatterns.MANY;
            } else if (!ofFirst.equals(ofSecond)) {
                want = c;
            }
        }
        Check.due("differ of " + texts[one] + " and " + texts[other], x.differ(one, other), want);
        calls++;
    }

    private void play() {
        mask = 1 + random.nextInt(255);
        n = 1 + random.nextInt(20);
        d = 1 + random.nextInt(20);
        tick = 0;
        Check.due("play", x.play(mask, n, d), true);
        calls++;
    }

    private record Onset(long tick, int slot, Fraction time, Fraction end, char letter, long lasts) {
        static final Comparator<Onset> ORDER = Comparator.comparing(Onset::tick).thenComparing(Onset::slot)
                .thenComparing(Onset::time).thenComparing(Onset::end).thenComparing(Onset::letter);
    }

    private void advance() {
        int k = 1 + random.nextInt(random.nextBoolean() ? 500 : 20);
        if (mask == 0) {
            Check.bad("advance", x.advance(k));
            calls++;
            return;
        }
        List<Onset> onsets = new ArrayList<>();
        for (int slot = 0; slot < 8; slot++) {
            if ((mask & 1 << slot) != 0) {
                addOnsets(onsets, slot, k);
            }
        }
        onsets.sort(Onset.ORDER);
        boolean many = onsets.size() > 100;
        String name = "advance of " + String.join(" ", texts) + " mask " + mask + " speed " + n + "/" + d
                + " from " + tick + " on by " + k;
        Check.due(name, x.advance(k), many ? CyclePatterns.MANY : onsets.size());
        if (many) {
            onsets.clear();
        }
        int first = random.nextInt(Math.max(1, onsets.size() - WINDOW + 2));
        StringBuilder want = new StringBuilder();
        for (int i = first; i < Math.min(first + WINDOW, onsets.size()); i++) {
            Onset onset = onsets.get(i);
            want.append(want.length() == 0 ? "" : ", ").append(onset.tick()).append(' ').append(onset.slot())
                    .append(' ').append(onset.letter()).append(' ').append(onset.lasts());
        }
        Check.due(name, Check.dueOnsets(x, first, first + WINDOW), want.toString());
        tick += many ? 0 : k;
        Check.due("tick", x.tick(), tick);
        calls += 3 + 4 * Math.min(WINDOW, onsets.size() - first);
    }

    /** Looks at whole cycles round the ticks, and takes the onsets whose tick is one of these. */
    private void addOnsets(List<Onset> onsets, int slot, int k) {
        Fraction from = Fraction.of(Fraction.of((long) tick * n, 1000L * d).floor());
        Fraction to = Fraction.of(Fraction.of((long) (tick + k) * n, 1000L * d).ceiling());
        for (Reference.Part part : Reference.of(texts[slot]).inOrder(from, to)) {
            long at = tickOf(part.wholeBegin());
            if (part.isOnset() && at >= tick && at < tick + k) {
                onsets.add(new Onset(at, slot, part.wholeBegin(), part.wholeEnd(), part.letter(), tickOf(part.wholeEnd()) - at));
            }
        }
    }

    private long tickOf(Fraction time) {
        return time.times(Fraction.of(1000L * d, n)).floor();
    }
}
