import java.util.ArrayDeque;
import java.util.ArrayList;
import java.util.Comparator;
import java.util.Deque;
import java.util.List;
import java.util.function.UnaryOperator;

/**
 * A slow model of the document in fractions. It asks inner patterns for lists of parts in their own
 * times and moves these outwards, where the program carries a frame inwards; and it finds where a
 * text is wrong by a stack of what is wanted, where the program reads by recursion.
 */
final class Reference {
    /** What sounds: a part, its whole, its letter. */
    record Part(Fraction begin, Fraction end, Fraction wholeBegin, Fraction wholeEnd, char letter) {
        static final Comparator<Part> ORDER = Comparator.comparing(Part::begin).thenComparing(Part::wholeBegin)
                .thenComparing(Part::end).thenComparing(Part::wholeEnd).thenComparing(Part::letter);

        Part moved(UnaryOperator<Fraction> move) {
            return new Part(move.apply(begin), move.apply(end), move.apply(wholeBegin), move.apply(wholeEnd), letter);
        }

        /** As moved, for a move that turns time round. */
        Part turned(UnaryOperator<Fraction> move) {
            return new Part(move.apply(end), move.apply(begin), move.apply(wholeEnd), move.apply(wholeBegin), letter);
        }

        boolean isOnset() {
            return begin.equals(wholeBegin);
        }
    }

    private final char sign;
    private final int[] digits = new int[3];
    private final List<Reference> inner = new ArrayList<>();

    private Reference(char sign) {
        this.sign = sign;
    }

    // ---- where a text is wrong

    /** The place where it is wrong, or -1. */
    static int wrongPlace(String text) {
        Deque<String> wanted = new ArrayDeque<>();
        wanted.push("pattern");
        for (int at = 0; at < text.length(); at++) {
            if (wanted.isEmpty() || !goesOn(wanted, text.charAt(at))) {
                return at;
            }
        }
        return wanted.isEmpty() ? -1 : text.length();
    }

    /** Wanted: "pattern"; "0".."9", a digit that is no less; "k", a digit that the n behind it limits; or a
     * closing sign and how many patterns are still allowed before it. */
    private static boolean goesOn(Deque<String> wanted, char sign) {
        String first = wanted.pop();
        if (first.equals("k")) {
            wanted.push(String.valueOf(sign == '0' ? '1' : sign));
            return sign >= '0' && sign <= '9';
        }
        if (first.length() == 1) {
            return sign >= first.charAt(0) && sign <= '9';
        }
        if (first.equals("pattern")) {
            return patternGoesOn(wanted, sign);
        }
        if (sign == first.charAt(0)) {
            return true;
        }
        int left = first.charAt(1) - '0';
        if (left == 0) {
            return false;
        }
        wanted.push("" + first.charAt(0) + (left - 1));
        return patternGoesOn(wanted, sign);
    }

    private static boolean patternGoesOn(Deque<String> wanted, char sign) {
        String[] more;
        switch (sign) {
            case '[': more = new String[] {"pattern", "]8"}; break;
            case '<': more = new String[] {"pattern", ">8"}; break;
            case '{': more = new String[] {"pattern", "}8"}; break;
            case 'F': case 'S': more = new String[] {"1", "pattern"}; break;
            case 'L': more = new String[] {"1", "1", "pattern"}; break;
            case 'R': more = new String[] {"pattern"}; break;
            case 'V': more = new String[] {"1", "pattern", "pattern"}; break;
            case 'E': more = new String[] {"k", "0", "pattern"}; break;
            default: return sign == '~' || sign >= 'a' && sign <= 'z';
        }
        for (int i = more.length - 1; i >= 0; i--) {
            wanted.push(more[i]);
        }
        return true;
    }

    // ---- the pattern of a text that is not wrong

    static Reference of(String text) {
        return read(text, new int[1]);
    }

    private static Reference read(String text, int[] at) {
        Reference pattern = new Reference(text.charAt(at[0]++));
        int digits = "RFSVLE".indexOf(pattern.sign) < 0 ? 0 : new int[] {0, 1, 1, 1, 2, 3}["RFSVLE".indexOf(pattern.sign)];
        for (int i = 0; i < digits; i++) {
            pattern.digits[i] = text.charAt(at[0]++) - '0';
        }
        if ("[<{".indexOf(pattern.sign) >= 0) {
            while ("]>}".indexOf(text.charAt(at[0])) < 0) {
                pattern.inner.add(read(text, at));
            }
            at[0]++;
        } else if ("FSLRVE".indexOf(pattern.sign) >= 0) {
            for (int i = 0; i < (pattern.sign == 'V' ? 2 : 1); i++) {
                pattern.inner.add(read(text, at));
            }
        }
        return pattern;
    }

    /** It may be far too fine, so it is no int. */
    double grain() {
        double grain = switch (sign) {
            case '[' -> inner.size();
            case 'F', 'S' -> digits[0];
            case 'L', 'E' -> digits[1];
            default -> 1;
        };
        for (Reference pattern : inner) {
            grain *= pattern.grain();
        }
        return grain;
    }

    // ---- what sounds

    List<Part> inOrder(Fraction from, Fraction to) {
        List<Part> parts = parts(from, to);
        parts.sort(Part.ORDER);
        return parts;
    }

    private List<Part> parts(Fraction from, Fraction to) {
        List<Part> parts = new ArrayList<>();
        int k = digits[0];
        switch (sign) {
            case '~':
                break;
            case '{':
                inner.forEach(pattern -> parts.addAll(pattern.parts(from, to)));
                break;
            case 'F':
                inner.get(0).parts(from.times(k), to.times(k)).forEach(p -> parts.add(p.moved(t -> t.dividedBy(k))));
                break;
            case 'S':
                inner.get(0).parts(from.dividedBy(k), to.dividedBy(k)).forEach(p -> parts.add(p.moved(t -> t.times(k))));
                break;
            case 'L':
                Fraction later = Fraction.of(k, digits[1]);
                inner.get(0).parts(from.minus(later), to.minus(later))
                        .forEach(p -> parts.add(p.moved(t -> t.plus(later))));
                break;
            default:
                for (long c = from.floor(); c < to.ceiling(); c++) {
                    Fraction cutFrom = Fraction.max(from, Fraction.of(c));
                    Fraction cutTo = Fraction.min(to, Fraction.of(c + 1));
                    addCycle(parts, c, cutFrom, cutTo);
                }
        }
        return parts;
    }

    private void addCycle(List<Part> parts, long c, Fraction from, Fraction to) {
        switch (sign) {
            case '[':
                for (int i = 0; i < inner.size(); i++) {
                    addStep(parts, inner.get(i), c, i, inner.size(), from, to);
                }
                break;
            case 'E':
                for (int j = 0; j < digits[1]; j++) {
                    if ((j + digits[2]) * digits[0] % digits[1] < digits[0]) {
                        addStep(parts, inner.get(0), c, j, digits[1], from, to);
                    }
                }
                break;
            case '<':
                long i = Math.floorMod(c, inner.size());
                Fraction away = Fraction.of(c - (c - i) / inner.size());
                inner.get((int) i).parts(from.minus(away), to.minus(away))
                        .forEach(p -> parts.add(p.moved(t -> t.plus(away))));
                break;
            case 'R':
                Fraction mirror = Fraction.of(2 * c + 1);
                inner.get(0).parts(mirror.minus(to), mirror.minus(from))
                        .forEach(p -> parts.add(p.turned(mirror::minus)));
                break;
            case 'V':
                parts.addAll(inner.get(c % digits[0] == 0 ? 0 : 1).parts(from, to));
                break;
            default:
                parts.add(new Part(from, to, Fraction.of(c), Fraction.of(c + 1), sign));
        }
    }

    private static void addStep(List<Part> parts, Reference pattern, long c, int i, int n, Fraction from, Fraction to) {
        Fraction start = Fraction.of(c);
        Fraction cutFrom = Fraction.max(from, start.plus(Fraction.of(i, n)));
        Fraction cutTo = Fraction.min(to, start.plus(Fraction.of(i + 1, n)));
        if (cutFrom.compareTo(cutTo) >= 0) {
            return;
        }
        UnaryOperator<Fraction> inwards = t -> t.minus(start).times(n).minus(Fraction.of(i)).plus(start);
        UnaryOperator<Fraction> outwards = t -> t.minus(start).plus(Fraction.of(i)).dividedBy(n).plus(start);
        pattern.parts(inwards.apply(cutFrom), inwards.apply(cutTo)).forEach(p -> parts.add(p.moved(outwards)));
    }
}
