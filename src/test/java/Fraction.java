import java.math.BigInteger;

/** Exact fractions without a limit, for the reference. */
final class Fraction implements Comparable<Fraction> {
    static final Fraction ZERO = of(0);
    final BigInteger above;
    final BigInteger below;

    Fraction(BigInteger above, BigInteger below) {
        if (below.signum() == 0) {
            throw new IllegalArgumentException("nothing below the line");
        }
        BigInteger shared = above.gcd(below);
        BigInteger by = below.signum() < 0 ? shared.negate() : shared;
        this.above = above.divide(by);
        this.below = below.divide(by);
    }

    static Fraction of(long v) {
        return new Fraction(BigInteger.valueOf(v), BigInteger.ONE);
    }

    Fraction plus(Fraction o) {
        return new Fraction(above.multiply(o.below).add(o.above.multiply(below)), below.multiply(o.below));
    }

    Fraction minus(Fraction o) {
        return plus(o.times(of(-1)));
    }

    Fraction times(Fraction o) {
        return new Fraction(above.multiply(o.above), below.multiply(o.below));
    }

    Fraction over(Fraction o) {
        return new Fraction(above.multiply(o.below), below.multiply(o.above));
    }

    int sign() {
        return above.signum();
    }

    @Override
    public int compareTo(Fraction o) {
        return above.multiply(o.below).compareTo(o.above.multiply(below));
    }

    long part(int part) {
        return (part == 0 ? above : below).longValueExact();
    }
}
