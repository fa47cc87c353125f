/** Counts and prints the answers that are not as due, and gives tests short ways to use the class. */
final class Check {
    private static int wrong = 0;
    private static int checked = 0;

    private Check() {
    }

    static void due(String what, long got, long want) {
        checked++;
        if (got != want) {
            wrong++;
            System.out.println(what + " answered " + got + ", due is " + want);
        }
    }

    static void due(String what, boolean got, boolean want) {
        due(what, got ? 1 : 0, want ? 1 : 0);
    }

    static void due(String what, String got, String want) {
        checked++;
        if (!got.equals(want)) {
            wrong++;
            System.out.println(what + " answered " + got + ", due is " + want);
        }
    }

    /** Ends the test: exit code 1 if an answer was wrong, or if nothing was checked at all. */
    static void end() {
        System.out.println(checked + " answers, " + wrong + " of them not as due");
        if (wrong != 0 || checked == 0) {
            System.exit(1);
        }
    }

    /** Types a text of any length, up to eight characters a call; the last call's answer. */
    static int type(CyclePatterns x, String text) {
        int answer = 0;
        for (int start = 0; start < text.length(); start += 8) {
            String piece = text.substring(start, Math.min(start + 8, text.length()));
            answer = x.type(packed(piece), piece.length());
        }
        return answer;
    }

    static long packed(String piece) {
        long characters = 0;
        for (int i = 0; i < piece.length(); i++) {
            characters = characters << 8 | piece.charAt(i);
        }
        return characters;
    }

    static int define(CyclePatterns x, int slot, String text) {
        type(x, text);
        return x.define(slot);
    }

    /** A new object with a text's pattern in slot 0, and so on for more texts. */
    static CyclePatterns with(String... texts) {
        CyclePatterns x = new CyclePatterns();
        for (int slot = 0; slot < texts.length; slot++) {
            define(x, slot, texts[slot]);
        }
        return x;
    }

    /** All that was found, "letter begin..end of wholeBegin..wholeEnd" each. */
    static String found(CyclePatterns x) {
        StringBuilder text = new StringBuilder();
        for (int i = 0; x.part(i, 4) != CyclePatterns.BAD; i++) {
            text.append(i == 0 ? "" : ", ").append((char) x.part(i, 4))
                    .append(' ').append(x.part(i, 0)).append("..").append(x.part(i, 1))
                    .append(" of ").append(x.part(i, 2)).append("..").append(x.part(i, 3));
        }
        return text.toString();
    }

    /** What is found of a text's pattern from cycle a to cycle b. */
    static String parts(String text, int a, int b) {
        CyclePatterns x = with(text);
        x.query(0, a, b, 1);
        return found(x);
    }

    /** All that is due, "tick slot letter lasts" each. */
    static String dueOnsets(CyclePatterns x) {
        StringBuilder text = new StringBuilder();
        for (int i = 0; x.due(i, 2) != CyclePatterns.BAD; i++) {
            text.append(i == 0 ? "" : ", ").append(x.due(i, 0)).append(' ').append(x.due(i, 1))
                    .append(' ').append((char) x.due(i, 2)).append(' ').append(x.due(i, 3));
        }
        return text.toString();
    }
}
