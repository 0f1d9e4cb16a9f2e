import java.math.BigInteger;

/** A fraction in lowest terms, for the model that the program is compared with. */
final class Fraction implements Comparable<Fraction> {
    static final Fraction ZERO = of(0);
    static final Fraction ONE = of(1);

    final BigInteger above;
    final BigInteger below;

    private Fraction(BigInteger above, BigInteger below) {
        BigInteger common = above.gcd(below).multiply(BigInteger.valueOf(below.signum()));
        this.above = above.divide(common);
        this.below = below.divide(common);
    }

    static Fraction of(long whole) {
        return new Fraction(BigInteger.valueOf(whole), BigInteger.ONE);
    }

    Fraction plus(Fraction o) {
        return new Fraction(above.multiply(o.below).add(o.above.multiply(below)), below.multiply(o.below));
    }

    Fraction minus(Fraction o) {
        return plus(new Fraction(o.above.negate(), o.below));
    }

    Fraction times(Fraction o) {
        return new Fraction(above.multiply(o.above), below.multiply(o.below));
    }

    Fraction over(Fraction o) {
        return new Fraction(above.multiply(o.below), below.multiply(o.above));
    }

    int sign() {
        return above.signum();
    }

    long down() {
        BigInteger[] both = above.divideAndRemainder(below);
        return both[1].signum() < 0 ? both[0].longValueExact() - 1 : both[0].longValueExact();
    }

    long up() {
        return -Fraction.ZERO.minus(this).down();
    }

    long part(int part) {
        return (part == 0 ? above : below).longValueExact();
    }

    @Override
    public int compareTo(Fraction o) {
        return minus(o).sign();
    }
}
