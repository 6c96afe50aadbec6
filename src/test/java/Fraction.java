import java.math.BigInteger;

/** An exact fraction of any size, in lowest terms. */
record Fraction(BigInteger top, BigInteger bottom) implements Comparable<Fraction> {
    static Fraction of(BigInteger top, BigInteger bottom) {
        BigInteger shared = top.gcd(bottom).multiply(BigInteger.valueOf(bottom.signum()));
        return new Fraction(top.divide(shared), bottom.divide(shared));
    }

    static Fraction of(long top, long bottom) {
        return of(BigInteger.valueOf(top), BigInteger.valueOf(bottom));
    }

    Fraction plus(Fraction f) {
        return of(top.multiply(f.bottom).add(f.top.multiply(bottom)), bottom.multiply(f.bottom));
    }

    Fraction times(Fraction f) {
        return of(top.multiply(f.top), bottom.multiply(f.bottom));
    }

    Fraction by(Fraction f) {
        return of(top.multiply(f.bottom), bottom.multiply(f.top));
    }

    long part(int what) {
        return (what == 0 ? top : bottom).longValueExact();
    }

    @Override
    public int compareTo(Fraction f) {
        return top.multiply(f.bottom).compareTo(f.top.multiply(bottom));
    }
}
