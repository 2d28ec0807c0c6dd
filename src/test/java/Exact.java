import java.math.BigInteger;

/** Powers of whole numbers, by BigInteger. */
final class Exact {
    private static final int NEAR_BITS = 53;

    private Exact() {
    }

    static BigInteger power(int base, int exponent) {
        return BigInteger.valueOf(base).pow(exponent);
    }

    static boolean isNear(int base, int exponent) {
        return power(base, exponent).abs().bitLength() <= NEAR_BITS;
    }

    static int shift(int whole) {
        return whole == 0 ? 0 : Integer.numberOfTrailingZeros(whole);
    }

    /** With a base from -64 to 64 and an exponent from 0 to 64 no shift comes near 1000: the odd part alone tells. */
    static boolean isTold(int base, int exponent) {
        return isNear(base >> shift(base), exponent);
    }
}
