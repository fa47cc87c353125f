/** An exact rational number, always in lowest terms; it throws rather than overflow. */
record Fraction(long over, long under) implements Comparable<Fraction> {
    static Fraction of(long over, long under) {
        long divisor = gcd(Math.abs(over), Math.abs(under)) * (under < 0 ? -1 : 1);
        return new Fraction(over / divisor, under / divisor);
    }

    static Fraction of(long whole) {
        return new Fraction(whole, 1);
    }

    private static long gcd(long a, long b) {
        return b == 0 ? a : gcd(b, a % b);
    }

    Fraction plus(Fraction other) {
        return of(Math.addExact(Math.multiplyExact(over, other.under), Math.multiplyExact(other.over, under)),
                Math.multiplyExact(under, other.under));
    }

    Fraction minus(Fraction other) {
        return plus(of(-other.over, other.under));
    }

    Fraction times(Fraction other) {
        return of(Math.multiplyExact(over, other.over), Math.multiplyExact(under, other.under));
    }

    Fraction times(long factor) {
        return times(of(factor));
    }

    Fraction dividedBy(long divisor) {
        return times(of(1, divisor));
    }

    long floor() {
        return Math.floorDiv(over, under);
    }

    long ceiling() {
        return -Math.floorDiv(-over, under);
    }

    @Override
    public int compareTo(Fraction other) {
        return Long.compare(Math.multiplyExact(over, other.under), Math.multiplyExact(other.over, under));
    }

    static Fraction max(Fraction a, Fraction b) {
        return a.compareTo(b) >= 0 ? a : b;
    }

    static Fraction min(Fraction a, Fraction b) {
        return a.compareTo(b) <= 0 ? a : b;
    }
}
