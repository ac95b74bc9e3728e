import java.math.BigInteger;

/** A fraction of any size, in lowest terms. */
record Ratio(BigInteger above, BigInteger below) {
    static final Ratio ZERO = of(0);
    static final Ratio ONE = of(1);

    static Ratio of(long n) {
        return new Ratio(BigInteger.valueOf(n), BigInteger.ONE);
    }

    static Ratio of(BigInteger above, BigInteger below) {
        BigInteger divisor = above.gcd(below);
        if (below.signum() < 0) {
            divisor = divisor.negate();
        }
        return new Ratio(above.divide(divisor), below.divide(divisor));
    }

    Ratio plus(Ratio o) {
        return of(above.multiply(o.below).add(o.above.multiply(below)), below.multiply(o.below));
    }

    Ratio minus(Ratio o) {
        return plus(o.times(of(-1)));
    }

    Ratio times(Ratio o) {
        return of(above.multiply(o.above), below.multiply(o.below));
    }

    Ratio over(Ratio o) {
        return of(above.multiply(o.below), below.multiply(o.above));
    }

    int sign() {
        return above.signum();
    }

    long part(int which) {
        return (which == 0 ? above : below).longValueExact();
    }
}
