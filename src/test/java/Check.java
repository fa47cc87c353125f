/**
 * Counts and prints the answers that are not as due, and gives tests short ways to use the class. A
 * test stands for one sentence of the document; its name says which.
 */
final class Check {
    private static String sentence = "";
    private static int tests = 0;
    private static int failed = 0;
    private static int answers = 0;
    private static int wrong = 0;

    private Check() {
    }

    /** Runs one test; it fails if one of its answers is wrong, if it asks for none, or if it throws. */
    static void test(String name, Runnable body) {
        sentence = name;
        tests++;
        int answersBefore = answers;
        int wrongBefore = wrong;
        try {
            body.run();
        } catch (RuntimeException | StackOverflowError thrown) {
            wrong++;
            System.out.println("[" + sentence + "] threw " + thrown);
        }
        if (wrong != wrongBefore || answers == answersBefore) {
            failed++;
            System.out.println("[" + sentence + "] failed");
        }
    }

    static void due(String what, long got, long want) {
        due(what, String.valueOf(got), String.valueOf(want));
    }

    static void due(String what, boolean got, boolean want) {
        due(what, String.valueOf(got), String.valueOf(want));
    }

    static void due(String what, String got, String want) {
        answers++;
        if (!got.equals(want)) {
            wrong++;
            System.out.println("[" + sentence + "] " + what + " answered " + got + ", due is " + want);
        }
    }

    static void bad(String what, int got) {
        due(what, got, CyclePatterns.BAD);
    }

    /** Ends the program: exit code 1 if a test failed, or if there was none at all. */
    static void end() {
        System.out.println(tests + " tests, " + failed + " failed; " + answers + " answers");
        if (failed != 0 || tests == 0) {
            System.exit(1);
        }
    }

    /** Types a text of any length, up to eight characters a call; the last call's answer. */
    static int type(CyclePatterns x, String text) {
        int answer = 0;
        for (int start = 0; start < text.length(); start += 8) {
            String piece = text.substring(start, Math.min(start + 8, text.length()));
            answer = x.type(packed(piece), piece.length());
        }
        return answer;
    }

    static long packed(String piece) {
        long characters = 0;
        for (int i = 0; i < piece.length(); i++) {
            characters = characters << 8 | piece.charAt(i);
        }
        return characters;
    }

    static int define(CyclePatterns x, int slot, String text) {
        type(x, text);
        return x.define(slot);
    }

    /** What define answers to a text on a new object. */
    static void defines(String text, int want) {
        due("define of " + text, define(new CyclePatterns(), 0, text), want);
    }

    static void wrongAt(String text, int place) {
        defines(text, -100 - place);
    }

    /** A new object with a text's pattern in slot 0, and so on for more texts. */
    static CyclePatterns with(String... texts) {
        CyclePatterns x = new CyclePatterns();
        for (int slot = 0; slot < texts.length; slot++) {
            define(x, slot, texts[slot]);
        }
        return x;
    }

    /** All that was found, "letter begin..end of wholeBegin..wholeEnd" each, times unit(). */
    static String found(CyclePatterns x) {
        return found(x, 0, 201);
    }

    /** As found, of the parts number first to before last alone: five calls a part. */
    static String found(CyclePatterns x, int first, int last) {
        StringBuilder text = new StringBuilder();
        for (int i = first; i < last; i++) {
            int letter = x.part(i, 4);
            if (letter == CyclePatterns.BAD) {
                break;
            }
            text.append(i == first ? "" : ", ").append((char) letter)
                    .append(' ').append(x.part(i, 0)).append("..").append(x.part(i, 1))
                    .append(" of ").append(x.part(i, 2)).append("..").append(x.part(i, 3));
        }
        return text.toString();
    }

    /** What a text's pattern has from cycle a to cycle b, as found tells it. */
    static void finds(String text, int a, int b, String want) {
        CyclePatterns x = with(text);
        x.query(0, a, b, 1);
        due(text + " from " + a + " to " + b, found(x), want);
    }

    /** As finds, where every part is a whole event; "letter begin..end" each. */
    static void findsWholes(String text, int a, int b, String want) {
        finds(text, a, b, want.replaceAll("(-?\\d+\\.\\.-?\\d+)", "$1 of $1"));
    }

    /** All that is due, "tick slot letter lasts" each. */
    static String dueOnsets(CyclePatterns x) {
        return dueOnsets(x, 0, 101);
    }

    /** As dueOnsets, of the onsets number first to before last alone: four calls an onset. */
    static String dueOnsets(CyclePatterns x, int first, int last) {
        StringBuilder text = new StringBuilder();
        for (int i = first; i < last; i++) {
            int letter = x.due(i, 2);
            if (letter == CyclePatterns.BAD) {
                break;
            }
            text.append(i == first ? "" : ", ").append(x.due(i, 0)).append(' ').append(x.due(i, 1))
                    .append(' ').append((char) letter).append(' ').append(x.due(i, 3));
        }
        return text.toString();
    }
}
