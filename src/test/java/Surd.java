import java.math.BigInteger;

/** An exact number (a + b * r) / d, r being the square root of 3 and d above 0. */
record Surd(BigInteger a, BigInteger b, BigInteger d) {
    static Surd of(long a, long b, long d) {
        return new Surd(BigInteger.valueOf(a), BigInteger.valueOf(b), BigInteger.valueOf(d));
    }

    Surd plus(Surd o) {
        return new Surd(a.multiply(o.d).add(o.a.multiply(d)), b.multiply(o.d).add(o.b.multiply(d)), d.multiply(o.d));
    }

    Surd minus(Surd o) {
        return plus(new Surd(o.a.negate(), o.b.negate(), o.d));
    }

    Surd times(Surd o) {
        BigInteger three = BigInteger.valueOf(3);
        return new Surd(a.multiply(o.a).add(b.multiply(o.b).multiply(three)), a.multiply(o.b).add(b.multiply(o.a)), d.multiply(o.d));
    }

    /** Through the conjugate; o is not 0. */
    Surd over(Surd o) {
        BigInteger norm = o.a.multiply(o.a).subtract(o.b.multiply(o.b).multiply(BigInteger.valueOf(3)));
        Surd upper = times(new Surd(o.a, o.b.negate(), BigInteger.ONE));
        BigInteger sign = BigInteger.valueOf(norm.signum());
        return new Surd(upper.a.multiply(o.d).multiply(sign), upper.b.multiply(o.d).multiply(sign), upper.d.multiply(norm.abs()));
    }

    int sign() {
        if (a.signum() * b.signum() >= 0) {
            return a.signum() != 0 ? a.signum() : b.signum();
        }
        int bigger = a.multiply(a).compareTo(b.multiply(b).multiply(BigInteger.valueOf(3)));
        return bigger > 0 ? a.signum() : b.signum();
    }

    int compareTo(long n) {
        return minus(of(n, 0, 1)).sign();
    }

    long floor() {
        long k = (long) Math.floor((a.doubleValue() + b.doubleValue() * Math.sqrt(3)) / d.doubleValue());
        while (compareTo(k) < 0) {
            k--;
        }
        while (compareTo(k + 1) >= 0) {
            k++;
        }
        return k;
    }
}
