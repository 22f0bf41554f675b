import java.math.BigInteger;

/** An exact fraction in least terms, for the plain model. */
record Ratio(BigInteger above, BigInteger below) implements Comparable<Ratio> {
    static final Ratio ZERO = of(0, 1);

    Ratio {
        if (below.signum() <= 0) {
            throw new IllegalArgumentException("below must be above 0");
        }
        BigInteger divisor = above.gcd(below);
        above = above.divide(divisor);
        below = below.divide(divisor);
    }

    static Ratio of(long above, long below) {
        return new Ratio(BigInteger.valueOf(above), BigInteger.valueOf(below));
    }

    Ratio plus(Ratio o) {
        return new Ratio(above.multiply(o.below).add(o.above.multiply(below)), below.multiply(o.below));
    }

    Ratio minus(Ratio o) {
        return plus(new Ratio(o.above.negate(), o.below));
    }

    Ratio times(Ratio o) {
        return new Ratio(above.multiply(o.above), below.multiply(o.below));
    }

    Ratio over(Ratio o) {
        Ratio turned = o.above.signum() > 0 ? new Ratio(o.below, o.above) : new Ratio(o.below.negate(), o.above.negate());
        return times(turned);
    }

    Ratio squared() {
        return times(this);
    }

    long side(int side) {
        return (side == 0 ? above : below).longValueExact();
    }

    @Override
    public int compareTo(Ratio o) {
        return above.multiply(o.below).compareTo(o.above.multiply(below));
    }
}
