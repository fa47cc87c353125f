/**
 * Patterns that repeat and change from cycle to cycle: texts are read as patterns, which tell for
 * any span of time what sounds in it, exactly; two of them are compared; and a player gives each
 * onset just once, at its tick.
 *
 * <p>All times are whole numbers of a unit that is fine enough for the call at hand (a multiple of
 * the grain), so nothing is ever rounded but ticks. Only reading a pattern makes new objects: the
 * rows of parts and onsets are made here once and used again.
 */
public final class CyclePatterns {
    public static final int BAD = -1;
    public static final int MANY = -2;
    public static final int FULL = -3;

    private static final int SLOTS = 8;
    private static final int MOST_TYPED = 8;
    private static final int FINEST_GRAIN = 5040;
    private static final int WRONG = -100;

    private static final int MOST_PARTS = 200;
    private static final int FINEST_SPLIT = 50;
    private static final int FARTHEST_CYCLE = 1000;
    private static final int LONGEST_SPAN = 16;

    private static final int COMPARED_CYCLES = 16;
    private static final int NO_DIFFERENCE = -1;
    private static final int NO_SUCH_SLOTS = -9;

    private static final int MOST_ONSETS = 100;
    private static final int ALL_SLOTS = 255;
    private static final int FASTEST = 20;
    private static final int TICKS_OF_SPEED = 1000;
    private static final int MOST_TICKS = 500;

    private final Reader reader;
    private final Node[] patterns;
    private final int[] grains;

    private final Parts found;
    private int foundUnit;

    private final Parts partsOfOne;
    private final Parts partsOfOther;

    private final Onsets dueOnsets;
    private int playing;
    private int speedCycles;
    private int speedSplit;
    private long presentTick;

    public CyclePatterns() {
        reader = new Reader();
        patterns = new Node[SLOTS];
        grains = new int[SLOTS];
        for (int slot = 0; slot < SLOTS; slot++) {
            patterns[slot] = new Node('~', 0);
            grains[slot] = 1;
        }
        found = new Parts();
        foundUnit = 1;
        partsOfOne = new Parts();
        partsOfOther = new Parts();
        dueOnsets = new Onsets();
    }

    public int type(long characters, int n) {
        if (n < 1 || n > MOST_TYPED || !Reader.areTypeable(characters, n)) {
            return BAD;
        }
        return reader.append(characters, n) ? reader.length : FULL;
    }

    public int define(int slot) {
        if (!isSlot(slot)) {
            return BAD;
        }
        stopPlaying();
        Node pattern = reader.read();
        reader.clear();
        if (pattern == null) {
            return WRONG - reader.at;
        }
        if (reader.grain > FINEST_GRAIN) {
            return FULL;
        }
        patterns[slot] = pattern;
        grains[slot] = reader.grain;
        return grains[slot];
    }

    public int query(int slot, int a, int b, int d) {
        if (!isSlot(slot) || d < 1 || d > FINEST_SPLIT || !isSpan(a, b, d)) {
            return BAD;
        }
        long grain = grains[slot];
        foundUnit = grains[slot] * d;
        return found.gather(patterns[slot], foundUnit, a * grain, b * grain) ? found.rows.count : MANY;
    }

    public int unit() {
        return foundUnit;
    }

    public int part(int i, int what) {
        if (!found.rows.has(i)) {
            return BAD;
        }
        switch (what) {
            case 0: return (int) found.rows.value(i, Parts.BEGIN);
            case 1: return (int) found.rows.value(i, Parts.END);
            case 2: return (int) found.rows.value(i, Parts.WHOLE_BEGIN);
            case 3: return (int) found.rows.value(i, Parts.WHOLE_END);
            case 4: return (int) found.rows.value(i, Parts.LETTER);
            default: return BAD;
        }
    }

    public int onsets() {
        int onsets = 0;
        for (int i = 0; i < found.rows.count; i++) {
            if (found.rows.value(i, Parts.BEGIN) == found.rows.value(i, Parts.WHOLE_BEGIN)) {
                onsets++;
            }
        }
        return onsets;
    }

    public int differ(int one, int other) {
        if (!isSlot(one) || !isSlot(other)) {
            return NO_SUCH_SLOTS;
        }
        // A common unit, so that equal times are equal numbers.
        long unit = (long) grains[one] * grains[other];
        for (int cycle = 0; cycle < COMPARED_CYCLES; cycle++) {
            long from = cycle * unit;
            if (!partsOfOne.gather(patterns[one], unit, from, from + unit)
                    || !partsOfOther.gather(patterns[other], unit, from, from + unit)) {
                return MANY;
            }
            if (!partsOfOne.rows.sameAs(partsOfOther.rows)) {
                return cycle;
            }
        }
        return NO_DIFFERENCE;
    }

    public boolean play(int mask, int n, int d) {
        if (mask < 1 || mask > ALL_SLOTS || n < 1 || n > FASTEST || d < 1 || d > FASTEST) {
            return false;
        }
        stopPlaying();
        playing = mask;
        speedCycles = n;
        speedSplit = d;
        return true;
    }

    public int advance(int k) {
        if (playing == 0 || k < 1 || k > MOST_TICKS) {
            return BAD;
        }
        dueOnsets.rows.clear();
        for (int slot = 0; slot < SLOTS; slot++) {
            if (((playing >> slot) & 1) == 1) {
                gatherOnsets(slot, k);
            }
        }
        if (dueOnsets.rows.tooMany) {
            dueOnsets.rows.clear();
            return MANY;
        }
        presentTick += k;
        return dueOnsets.rows.count;
    }

    public int due(int i, int what) {
        if (!dueOnsets.rows.has(i)) {
            return BAD;
        }
        switch (what) {
            case 0: return (int) dueOnsets.rows.value(i, Onsets.TICK);
            case 1: return (int) dueOnsets.rows.value(i, Onsets.SLOT);
            case 2: return (int) dueOnsets.rows.value(i, Onsets.LETTER);
            case 3: return (int) ticksItLasts(i);
            default: return BAD;
        }
    }

    public int tick() {
        return (int) presentTick;
    }

    private static boolean isSlot(int slot) {
        return slot >= 0 && slot < SLOTS;
    }

    /** Whether query takes a / d to b / d; d is known to be small, so no product overflows. */
    private static boolean isSpan(int a, int b, int d) {
        int farthest = FARTHEST_CYCLE * d;
        return a >= -farthest && b <= farthest && a < b && (long) b - a <= LONGEST_SPAN * d;
    }

    private void stopPlaying() {
        playing = 0;
        presentTick = 0;
        dueOnsets.rows.clear();
    }

    private void gatherOnsets(int slot, int ticks) {
        long tickLength = tickLength(slot);
        long cycle = (long) TICKS_OF_SPEED * speedSplit * grains[slot];
        long from = presentTick * tickLength;
        dueOnsets.slot = slot;
        dueOnsets.tickLength = tickLength;
        dueOnsets.walk(patterns[slot], cycle, 0, from, from + ticks * tickLength, 1);
    }

    /**
     * A tick of a slot's player, counted so that a cycle has 1000 d grains: a tick, n / (1000 d) of
     * a cycle, is then a whole number too.
     */
    private long tickLength(int slot) {
        return (long) speedCycles * grains[slot];
    }

    private long ticksItLasts(int i) {
        int slot = (int) dueOnsets.rows.value(i, Onsets.SLOT);
        if (!isSlot(slot) || tickLength(slot) < 1) {
            return BAD;
        }
        long endTick = Math.floorDiv(dueOnsets.rows.value(i, Onsets.END), tickLength(slot));
        return endTick - dueOnsets.rows.value(i, Onsets.TICK);
    }

    /** A pattern that was read: its sign, its digits, and the patterns that it is made of. */
    private static final class Node {
        /** The sign that it begins with, or the letter. */
        private final char kind;
        private final Node[] inner;
        private int innerCount;
        /** The k of F S L V E. */
        private int k = 1;
        /** The m of L, the n of E, and how many patterns [ ] and the like hold. */
        private int n = 1;
        /** The r of E. */
        private int r;
        private boolean hasLetter;

        Node(char kind, int room) {
            this.kind = kind;
            inner = new Node[room];
            hasLetter = isLetter(kind);
        }

        static boolean isLetter(char sign) {
            return sign >= 'a' && sign <= 'z';
        }

        boolean add(Node pattern) {
            if (pattern == null || innerCount >= inner.length) {
                return false;
            }
            inner[innerCount] = pattern;
            innerCount++;
            hasLetter = hasLetter || pattern.canSound();
            return true;
        }

        /**
         * Whether it can have events. Walks stop where it cannot, which spares them long ways
         * through rests, and means that k and n divide safely wherever a walk goes on.
         */
        boolean canSound() {
            return hasLetter && k > 0 && n > 0;
        }

        Node innerAt(int i) {
            return i >= 0 && i < innerCount ? inner[i] : null;
        }

        /** The pattern in step j of [ ] or E; null for a rest. */
        Node inStep(int j) {
            if (kind == '[') {
                return innerAt(j);
            }
            return n > 0 && (j + r) * k % n < k ? innerAt(0) : null;
        }
    }

    /** The buffer, and the reading of it; when that fails, at is the place where it is wrong. */
    private static final class Reader {
        private static final int ROOM = 40;
        private static final int MOST_INNER = 9;
        private static final int LOWEST_SIGN = 33;
        private static final int HIGHEST_SIGN = 126;

        private final char[] text = new char[ROOM];
        private int length;
        private int at;
        private int grain;

        static boolean areTypeable(long characters, int n) {
            for (int i = 0; i < n; i++) {
                char sign = signAt(characters, i);
                if (sign < LOWEST_SIGN || sign > HIGHEST_SIGN) {
                    return false;
                }
            }
            return true;
        }

        /** The byte with i bytes below it. */
        private static char signAt(long characters, int i) {
            return (char) ((characters >>> (8 * i)) & 0xFF);
        }

        boolean append(long characters, int n) {
            if (length + n > ROOM) {
                return false;
            }
            for (int i = n - 1; i >= 0; i--) {
                text[length] = signAt(characters, i);
                length++;
            }
            return true;
        }

        void clear() {
            length = 0;
        }

        Node read() {
            at = 0;
            grain = 1;
            Node pattern = readPattern(1);
            return at == length ? pattern : null;
        }

        /** The pattern that begins here, with at behind it; or null, with at where it is wrong. */
        private Node readPattern(int depth) {
            // Each level takes a character, so no pattern that fits the buffer goes deeper.
            if (at >= length || depth > ROOM) {
                return null;
            }
            char sign = text[at];
            switch (sign) {
                case '[': return readGroup(sign, ']', depth);
                case '<': return readGroup(sign, '>', depth);
                case '{': return readGroup(sign, '}', depth);
                case 'F': case 'S': case 'L': case 'R': case 'E':
                    return readOperator(sign, 1, depth);
                case 'V': return readOperator(sign, 2, depth);
                default: return readLetterOrRest(sign);
            }
        }

        private Node readLetterOrRest(char sign) {
            if (sign != '~' && !Node.isLetter(sign)) {
                return null;
            }
            at++;
            return new Node(sign, 0);
        }

        private Node readGroup(char opening, char closing, int depth) {
            at++;
            Node group = new Node(opening, MOST_INNER);
            for (int i = 0; i < MOST_INNER && (i == 0 || !isAt(closing)); i++) {
                if (!group.add(readPattern(depth + 1))) {
                    return null;
                }
            }
            if (!isAt(closing)) {
                return null;
            }
            at++;
            group.n = group.innerCount;
            if (opening == '[') {
                refineGrain(group.n);
            }
            return group;
        }

        private boolean isAt(char sign) {
            return at < length && text[at] == sign;
        }

        private Node readOperator(char sign, int patterns, int depth) {
            at++;
            Node operator = new Node(sign, patterns);
            if (!readDigits(operator)) {
                return null;
            }
            for (int i = 0; i < patterns; i++) {
                if (!operator.add(readPattern(depth + 1))) {
                    return null;
                }
            }
            return operator;
        }

        private boolean readDigits(Node operator) {
            switch (operator.kind) {
                case 'F': case 'S':
                    return readK(operator, 1) && refineGrain(operator.k);
                case 'L':
                    return readK(operator, 1) && readN(operator, 1) && refineGrain(operator.n);
                case 'V':
                    return readK(operator, 1);
                case 'E':
                    return readK(operator, 0) && readN(operator, Math.max(1, operator.k))
                            && refineGrain(operator.n) && readR(operator);
                default:
                    return true;
            }
        }

        private boolean readK(Node operator, int lowest) {
            operator.k = readDigit(lowest);
            return operator.k >= 0;
        }

        private boolean readN(Node operator, int lowest) {
            operator.n = readDigit(lowest);
            return operator.n >= 0;
        }

        private boolean readR(Node operator) {
            operator.r = readDigit(0);
            return operator.r >= 0;
        }

        /** The digit here, with at behind it; or -1, with at still here, when it is none or too low. */
        private int readDigit(int lowest) {
            int digit = at < length ? text[at] - '0' : -1;
            if (digit < lowest || digit > 9) {
                return -1;
            }
            at++;
            return digit;
        }

        /** Stops multiplying once it is too fine, since forty characters could overflow it. */
        private boolean refineGrain(int factor) {
            if (grain <= FINEST_GRAIN) {
                grain *= factor;
            }
            return true;
        }
    }

    /** A limited number of rows of five numbers each, in order by the first, then the second ... */
    private static final class Rows {
        private static final int WIDTH = 5;
        /** A power of two; all strides together pass over every row. */
        private static final int WIDEST_STRIDE = 128;

        private final int limit;
        private final long[] values;
        /** Which row stands at each place of the order, so that only these move. */
        private final int[] rowAt;
        private int count;
        private boolean tooMany;

        Rows(int limit) {
            this.limit = limit;
            values = new long[limit * WIDTH];
            rowAt = new int[limit];
        }

        void clear() {
            count = 0;
            tooMany = false;
        }

        boolean has(int place) {
            return place >= 0 && place < count;
        }

        long value(int place, int column) {
            if (!has(place) || column < 0 || column >= WIDTH) {
                return 0;
            }
            return values[rowAt[place] * WIDTH + column];
        }

        void add(long first, long second, long third, long fourth, long fifth) {
            if (count >= limit) {
                tooMany = true;
                return;
            }
            int start = count * WIDTH;
            values[start] = first;
            values[start + 1] = second;
            values[start + 2] = third;
            values[start + 3] = fourth;
            values[start + 4] = fifth;
            int place = 0;
            for (int stride = WIDEST_STRIDE; stride > 0; stride /= 2) {
                if (place + stride <= count && !isNewestBefore(rowAt[place + stride - 1])) {
                    place += stride;
                }
            }
            System.arraycopy(rowAt, place, rowAt, place + 1, count - place);
            rowAt[place] = count;
            count++;
        }

        /** Whether the row behind the last one belongs before a row. */
        private boolean isNewestBefore(int row) {
            for (int column = 0; column < WIDTH; column++) {
                long newest = values[count * WIDTH + column];
                long old = values[row * WIDTH + column];
                if (newest != old) {
                    return newest < old;
                }
            }
            return false;
        }

        boolean sameAs(Rows other) {
            if (count != other.count) {
                return false;
            }
            for (int place = 0; place < count; place++) {
                for (int column = 0; column < WIDTH; column++) {
                    if (value(place, column) != other.value(place, column)) {
                        return false;
                    }
                }
            }
            return true;
        }
    }

    /**
     * A walk through a pattern that hears each of its events in a span. It carries how the times of
     * the pattern at hand come in those of the slot: time t comes at origin + t * width. Where
     * cycles run backwards width is below 0. The span from .. to is always in times of the slot,
     * and gets narrower where a pattern is cut.
     */
    private abstract static class Walk {
        final Rows rows;

        Walk(int limit) {
            rows = new Rows(limit);
        }

        /** A letter with its whole, begin .. end, which meets the span from .. to. */
        abstract void hear(char letter, long begin, long end, long from, long to);

        final void walk(Node node, long width, long origin, long from, long to, int depth) {
            if (node == null || !node.canSound() || width == 0 || from >= to || depth > Reader.ROOM) {
                return;
            }
            switch (node.kind) {
                case 'F':
                    walk(node.innerAt(0), width / node.k, origin, from, to, depth + 1);
                    break;
                case 'S':
                    walk(node.innerAt(0), width * node.k, origin, from, to, depth + 1);
                    break;
                case 'L':
                    long later = origin + width / node.n * node.k;
                    walk(node.innerAt(0), width, later, from, to, depth + 1);
                    break;
                case '{':
                    for (int i = 0; i < node.n && !rows.tooMany; i++) {
                        walk(node.innerAt(i), width, origin, from, to, depth + 1);
                    }
                    break;
                default:
                    walkCycles(node, width, origin, from, to, depth);
            }
        }

        private void walkCycles(Node node, long width, long origin, long from, long to, int depth) {
            boolean forwards = width > 0;
            long length = Math.abs(width);
            long first = Math.floorDiv(forwards ? from - origin : origin - to, length);
            long last = Math.floorDiv(forwards ? to - 1 - origin : origin - 1 - from, length);
            for (long cycle = first; cycle <= last && !rows.tooMany; cycle++) {
                walkCycle(node, cycle, width, origin, from, to, depth);
            }
        }

        private void walkCycle(Node node, long cycle, long width, long origin, long from, long to,
                int depth) {
            switch (node.kind) {
                case '[': case 'E':
                    walkSteps(node, cycle, width, origin, from, to, depth);
                    break;
                case '<':
                    long turn = Math.floorDiv(cycle, (long) node.n);
                    Node inTurn = node.innerAt((int) Math.floorMod(cycle, (long) node.n));
                    walkInto(turn, inTurn, width, origin + width * (cycle - turn), from, to, depth);
                    break;
                case 'R':
                    long mirrored = origin + width * (2 * cycle + 1);
                    walkInto(cycle, node.innerAt(0), -width, mirrored, from, to, depth);
                    break;
                case 'V':
                    Node chosen = node.innerAt(Math.floorMod(cycle, (long) node.k) == 0 ? 0 : 1);
                    walkInto(cycle, chosen, width, origin, from, to, depth);
                    break;
                default:
                    hear(node.kind, begin(cycle, width, origin), end(cycle, width, origin), from, to);
            }
        }

        private void walkSteps(Node node, long cycle, long width, long origin, long from, long to,
                int depth) {
            long stepWidth = width / node.n;
            long cycleBegin = origin + width * cycle;
            for (int i = 0; i < node.n && !rows.tooMany; i++) {
                long stepOrigin = cycleBegin + stepWidth * (i - cycle);
                walkInto(cycle, node.inStep(i), stepWidth, stepOrigin, from, to, depth);
            }
        }

        /** Goes into one cycle of an inner pattern, with the span cut to it. */
        private void walkInto(long cycle, Node inner, long width, long origin, long from, long to,
                int depth) {
            long cutFrom = Math.max(from, begin(cycle, width, origin));
            long cutTo = Math.min(to, end(cycle, width, origin));
            walk(inner, width, origin, cutFrom, cutTo, depth + 1);
        }

        private static long begin(long cycle, long width, long origin) {
            return origin + width * (width > 0 ? cycle : cycle + 1);
        }

        private static long end(long cycle, long width, long origin) {
            return origin + width * (width > 0 ? cycle + 1 : cycle);
        }
    }

    /** The parts of a pattern in a span; the columns stand as the parts are in order. */
    private static final class Parts extends Walk {
        private static final int BEGIN = 0;
        private static final int WHOLE_BEGIN = 1;
        private static final int END = 2;
        private static final int WHOLE_END = 3;
        private static final int LETTER = 4;

        Parts() {
            super(MOST_PARTS);
        }

        /** Whether they are not too many; else it has none. */
        boolean gather(Node pattern, long cycle, long from, long to) {
            rows.clear();
            walk(pattern, cycle, 0, from, to, 1);
            if (rows.tooMany) {
                rows.clear();
                return false;
            }
            return true;
        }

        void hear(char letter, long begin, long end, long from, long to) {
            rows.add(Math.max(begin, from), begin, Math.min(end, to), end, letter);
        }
    }

    /** The onsets of all slots in a span; the columns stand as the onsets are in order. */
    private static final class Onsets extends Walk {
        private static final int TICK = 0;
        private static final int SLOT = 1;
        private static final int END = 3;
        private static final int LETTER = 4;

        /** The slot that the walk goes through now, and how long a tick is in its times. */
        private int slot;
        private long tickLength;

        Onsets() {
            super(MOST_ONSETS);
        }

        void hear(char letter, long begin, long end, long from, long to) {
            if (begin >= from && tickLength > 0) {
                rows.add(Math.floorDiv(begin, tickLength), slot, begin, end, letter);
            }
        }
    }
}
