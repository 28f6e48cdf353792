import java.math.BigInteger;

/** A fraction of any size, in lowest terms, what is below above 0. */
final class Fraction implements Comparable<Fraction> {
    static final Fraction ZERO = of(0, 1);

    private final BigInteger above;
    private final BigInteger below;

    private Fraction(BigInteger n, BigInteger d) {
        BigInteger shared = d.signum() < 0 ? n.gcd(d).negate() : n.gcd(d);
        above = n.divide(shared);
        below = d.divide(shared);
    }

    static Fraction of(long n, long d) {
        return new Fraction(BigInteger.valueOf(n), BigInteger.valueOf(d));
    }

    Fraction plus(Fraction f) {
        return new Fraction(above.multiply(f.below).add(f.above.multiply(below)), below.multiply(f.below));
    }

    Fraction minus(Fraction f) {
        return plus(f.times(of(-1, 1)));
    }

    Fraction times(Fraction f) {
        return new Fraction(above.multiply(f.above), below.multiply(f.below));
    }

    Fraction times(long n) {
        return times(of(n, 1));
    }

    Fraction over(Fraction f) {
        return new Fraction(above.multiply(f.below), below.multiply(f.above));
    }

    int sign() {
        return above.signum();
    }

    boolean is(long n, long d) {
        return above.equals(BigInteger.valueOf(n)) && below.equals(BigInteger.valueOf(d));
    }

    public int compareTo(Fraction f) {
        return above.multiply(f.below).compareTo(f.above.multiply(below));
    }

    public String toString() {
        return above + "/" + below;
    }
}
