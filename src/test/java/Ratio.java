import java.math.BigInteger;

/** A fraction in lowest terms without limits, for the reference alone. */
final class Ratio implements Comparable<Ratio> {
    static final Ratio ZERO = of(0, 1);
    static final Ratio ONE = of(1, 1);

    final BigInteger upper;
    final BigInteger lower;

    private Ratio(BigInteger above, BigInteger below) {
        BigInteger divisor = above.gcd(below);
        BigInteger signed = below.signum() < 0 ? divisor.negate() : divisor;
        upper = above.divide(signed);
        lower = below.divide(signed);
    }

    static Ratio of(long above, long below) {
        return new Ratio(BigInteger.valueOf(above), BigInteger.valueOf(below));
    }

    Ratio plus(Ratio other) {
        return new Ratio(upper.multiply(other.lower).add(other.upper.multiply(lower)), lower.multiply(other.lower));
    }

    Ratio minus(Ratio other) {
        return new Ratio(upper.multiply(other.lower).subtract(other.upper.multiply(lower)), lower.multiply(other.lower));
    }

    Ratio times(Ratio other) {
        return new Ratio(upper.multiply(other.upper), lower.multiply(other.lower));
    }

    Ratio by(Ratio other) {
        return new Ratio(upper.multiply(other.lower), lower.multiply(other.upper));
    }

    boolean same(Ratio other) {
        return compareTo(other) == 0;
    }

    boolean isZero() {
        return upper.signum() == 0;
    }

    @Override
    public int compareTo(Ratio other) {
        return upper.multiply(other.lower).compareTo(other.upper.multiply(lower));
    }
}
