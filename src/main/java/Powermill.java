import java.util.NoSuchElementException;

/** Powers of whole numbers and square roots, exact to the bit, reckoned by whole numbers. */
public final class Powermill {
    private static final int SLOTS = 8;
    private static final int KEPT_AT_MOST = 8;
    private static final int BASE_AT_MOST = 64;
    private static final int EXPONENT_AT_MOST = 64;
    private static final int SHIFT_AT_MOST = 1000;
    private static final int SQUARED_SHIFT_AT_MOST = 400;
    private static final int DIGITS_AT_MOST = 53;
    private static final int DEGREE_AT_MOST = 53;
    private static final int DIVISOR_AT_MOST = 1000;
    private static final int ROOTED_AT_MOST = 4095;
    private static final int ROOT_PLACES_AT_MOST = 16;

    private static final long NONE = -1;
    private static final long TWO_TO_51 = 1L << 51;
    private static final long TWO_TO_52 = 1L << 52;
    private static final long ODD_AT_MOST = (1L << 53) - 1;
    private static final long LOW_26 = (1L << 26) - 1;
    private static final long LOW_27 = (1L << 27) - 1;
    private static final long LOW_54 = (1L << 54) - 1;
    private static final long SIGN_BIT = 1L << 63;

    private final int[] signs;
    private final long[] odds;
    private final int[] shifts;

    // The changes that are kept stand in a ring: the oldest one is overwritten when it is full.
    private final int[] keptSlots;
    private final int[] keptSigns;
    private final long[] keptOdds;
    private final int[] keptShifts;
    private int keptNext;
    private int keptCount;

    public Powermill() {
        signs = new int[SLOTS];
        odds = new long[SLOTS];
        shifts = new int[SLOTS];
        keptSlots = new int[KEPT_AT_MOST];
        keptSigns = new int[KEPT_AT_MOST];
        keptOdds = new long[KEPT_AT_MOST];
        keptShifts = new int[KEPT_AT_MOST];
        keptNext = 0;
        keptCount = 0;
    }

    // ---- numbers

    public int put(int slot, int whole) throws IndexOutOfBoundsException, IllegalArgumentException {
        checkSlot(slot);
        checkRange(whole, -BASE_AT_MOST, BASE_AT_MOST);
        return become(slot, signOf(whole), oddOf(whole), shiftOf(whole));
    }

    public int power(int slot, int base, int exponent)
            throws IndexOutOfBoundsException, IllegalArgumentException, UnsupportedOperationException {
        checkSlot(slot);
        checkBaseAndExponent(base, exponent);
        checkTold(base, exponent);
        return become(slot, powerSign(signOf(base), exponent), powerOdd(oddOf(base), exponent),
                shiftOf(base) * exponent);
    }

    public int twoTo(int slot, int exponent) throws IndexOutOfBoundsException, IllegalArgumentException {
        checkSlot(slot);
        checkRange(exponent, -SHIFT_AT_MOST, SHIFT_AT_MOST);
        return become(slot, 1, 1, exponent);
    }

    public int raise(int slot, int exponent, int to) throws IndexOutOfBoundsException, IllegalArgumentException,
            IllegalStateException, ArithmeticException, UnsupportedOperationException {
        checkSlot(slot);
        checkSlot(to);
        checkRange(exponent, -EXPONENT_AT_MOST, EXPONENT_AT_MOST);
        if (shifts[slot] < 0) {
            throw new IllegalStateException("the base is not whole");
        }
        if (signs[slot] == 0 && exponent < 0) {
            throw new ArithmeticException("1 divided by 0");
        }
        if (!isTold(odds[slot], shifts[slot], exponent)) {
            throw new UnsupportedOperationException("the power is not told");
        }
        return become(to, powerSign(signs[slot], exponent), powerOdd(odds[slot], exponent),
                shifts[slot] * exponent);
    }

    public int copy(int slot, int to) throws IndexOutOfBoundsException {
        checkSlot(slot);
        checkSlot(to);
        return become(to, signs[slot], odds[slot], shifts[slot]);
    }

    public int undo() throws NoSuchElementException {
        if (keptCount == 0) {
            throw new NoSuchElementException("nothing is kept");
        }
        keptCount--;
        keptNext = (keptNext + KEPT_AT_MOST - 1) % KEPT_AT_MOST;
        int slot = keptSlots[keptNext];
        signs[slot] = keptSigns[keptNext];
        odds[slot] = keptOdds[keptNext];
        shifts[slot] = keptShifts[keptNext];
        return slot;
    }

    public int kept() {
        return keptCount;
    }

    // ---- what a number is

    public int sign(int slot) throws IndexOutOfBoundsException {
        checkSlot(slot);
        return signs[slot];
    }

    public long odd(int slot) throws IndexOutOfBoundsException {
        checkSlot(slot);
        return odds[slot];
    }

    public int shift(int slot) throws IndexOutOfBoundsException {
        checkSlot(slot);
        return shifts[slot];
    }

    public long bits(int slot) throws IndexOutOfBoundsException {
        checkSlot(slot);
        return slotBits(slot);
    }

    public boolean isWhole(int slot) throws IndexOutOfBoundsException {
        checkSlot(slot);
        return shifts[slot] >= 0;
    }

    public long whole(int slot) throws IndexOutOfBoundsException, IllegalStateException {
        checkSlot(slot);
        checkNear(slot);
        return signs[slot] * nearSize(slot);
    }

    // ---- order

    public int compare(int slot, int other) throws IndexOutOfBoundsException {
        checkSlot(slot);
        checkSlot(other);
        long first = orderKey(slot);
        long second = orderKey(other);
        if (first < second) {
            return -1;
        }
        return first > second ? 1 : 0;
    }

    public int rank(int slot) throws IndexOutOfBoundsException {
        checkSlot(slot);
        long key = orderKey(slot);
        int less = 0;
        for (int other = 0; other < SLOTS; other++) {
            if (orderKey(other) < key) {
                less++;
            }
        }
        return less;
    }

    public int at(int place) throws IndexOutOfBoundsException {
        // Places are counted as slots are, so one test serves both.
        checkSlot(place);
        int found = 0;
        for (int slot = 0; slot < SLOTS; slot++) {
            if (placeOf(slot) == place) {
                found = slot;
            }
        }
        return found;
    }

    // ---- digits and roots

    public int log(int base, int slot) throws IndexOutOfBoundsException, IllegalArgumentException,
            IllegalStateException, ArithmeticException {
        checkSlot(slot);
        checkDigitBase(base);
        checkNear(slot);
        if (signs[slot] < 1) {
            throw new ArithmeticException("the number is less than 1");
        }
        return countDigits(base, nearSize(slot)) - 1;
    }

    public int digits(int base, int slot)
            throws IndexOutOfBoundsException, IllegalArgumentException, IllegalStateException {
        checkSlot(slot);
        checkDigitBase(base);
        checkNear(slot);
        return countDigits(base, nearSize(slot));
    }

    public int digit(int base, int slot, int place)
            throws IndexOutOfBoundsException, IllegalArgumentException, IllegalStateException {
        checkSlot(slot);
        checkDigitBase(base);
        if (place < 0) {
            throw new IllegalArgumentException("the place is below 0");
        }
        checkNear(slot);
        long left = nearSize(slot);
        for (int passed = 0; passed < place && left > 0; passed++) {
            left /= base;
        }
        return (int) (left % base);
    }

    public int root(int degree, int slot) throws IndexOutOfBoundsException, IllegalArgumentException,
            IllegalStateException, ArithmeticException {
        checkSlot(slot);
        checkRange(degree, 1, DEGREE_AT_MOST);
        checkNear(slot);
        if (signs[slot] < 0) {
            throw new ArithmeticException("the number is below 0");
        }
        long size = nearSize(slot);
        int found = 0;
        while (found < BASE_AT_MOST && powerUpTo(found + 1, degree, size) != NONE) {
            found++;
        }
        return found;
    }

    // ---- sums and rests

    public long sum(int base, int many) throws IllegalArgumentException, UnsupportedOperationException {
        checkBaseAndExponent(base, many);
        checkPowerNear(base, many);
        long total = 0;
        for (int added = 0; added < many; added++) {
            total = total * base + 1;
        }
        return total;
    }

    public int rest(int base, int exponent, int by) throws IllegalArgumentException, UnsupportedOperationException {
        checkBaseAndExponent(base, exponent);
        checkRange(by, 1, DIVISOR_AT_MOST);
        checkPowerNear(base, exponent);
        return (int) Math.floorMod(nearPower(base, exponent), (long) by);
    }

    public boolean isFermat(int base, int by) throws IllegalArgumentException, UnsupportedOperationException {
        checkBaseAndExponent(base, by);
        checkRange(by, 1, EXPONENT_AT_MOST);
        checkPowerNear(base, by);
        return (nearPower(base, by) - base) % by == 0;
    }

    // ---- laws of powers

    public boolean isChain(int base, int exponent) throws IllegalArgumentException, UnsupportedOperationException {
        checkBaseAndExponent(base, exponent);
        checkTold(base, exponent);
        double product = 1;
        for (int multiplied = 0; multiplied < exponent; multiplied++) {
            product *= base;
        }
        return bitsOfDouble(product) == powerBits(base, exponent);
    }

    public boolean addsUp(int base, int exponent, int other)
            throws IllegalArgumentException, UnsupportedOperationException {
        checkBaseAndExponent(base, exponent);
        checkRange(other, 0, EXPONENT_AT_MOST);
        checkRange(exponent + other, 0, EXPONENT_AT_MOST);
        checkTold(base, exponent + other);
        double product = powerAsDouble(base, exponent) * powerAsDouble(base, other);
        return bitsOfDouble(product) == powerBits(base, exponent + other);
    }

    public boolean isNested(int base, int exponent, int other)
            throws IllegalArgumentException, UnsupportedOperationException {
        checkBaseAndExponent(base, exponent);
        checkRange(other, 0, EXPONENT_AT_MOST);
        checkRange(exponent * other, 0, EXPONENT_AT_MOST);
        checkTold(base, exponent);
        checkTold(base, exponent * other);
        int firstSign = powerSign(signOf(base), exponent);
        long firstOdd = powerOdd(oddOf(base), exponent);
        int firstShift = shiftOf(base) * exponent;
        long nested = bitsOf(powerSign(firstSign, other), powerOdd(firstOdd, other), firstShift * other);
        return nested == powerBits(base, exponent * other);
    }

    // ---- powers by 0.5 and by 2

    public long rootBits(int whole) throws IllegalArgumentException {
        checkRange(whole, 0, ROOTED_AT_MOST);
        return nearestRootBits(whole);
    }

    public boolean isRoot(int whole) throws IllegalArgumentException {
        checkRange(whole, 0, ROOTED_AT_MOST);
        return isNearestRoot(whole, nearestRoot(whole));
    }

    public long rootAt(int whole, int places) throws IllegalArgumentException {
        checkRange(whole, 0, ROOTED_AT_MOST);
        checkRange(places, 0, ROOT_PLACES_AT_MOST);
        return floorRoot(whole, places);
    }

    public long backBits(int whole) throws IllegalArgumentException {
        checkRange(whole, 0, ROOTED_AT_MOST);
        return nearestBackBits(whole);
    }

    public boolean isBack(int whole) throws IllegalArgumentException {
        checkRange(whole, 0, ROOTED_AT_MOST);
        return nearestBackBits(whole) == bitsOf(signOf(whole), oddOf(whole), shiftOf(whole));
    }

    public long squareBits(int slot) throws IndexOutOfBoundsException, UnsupportedOperationException {
        checkSlot(slot);
        checkSquared(slot);
        return nearestSquareBits(odds[slot], shifts[slot]);
    }

    public boolean isTimes(int slot) throws IndexOutOfBoundsException, UnsupportedOperationException {
        checkSlot(slot);
        checkSquared(slot);
        double number = asDouble(signs[slot], odds[slot], shifts[slot]);
        return bitsOfDouble(number * number) == nearestSquareBits(odds[slot], shifts[slot]);
    }

    public boolean isSound() {
        for (int slot = 0; slot < SLOTS; slot++) {
            if (bitsOfDouble(asDouble(signs[slot], odds[slot], shifts[slot])) != slotBits(slot)) {
                return false;
            }
        }
        return true;
    }

    // ---- what the calls refuse

    private static void checkSlot(int slot) {
        if (slot < 0 || slot >= SLOTS) {
            throw new IndexOutOfBoundsException("no such slot or place");
        }
    }

    private static void checkRange(int value, int least, int greatest) {
        if (value < least || value > greatest) {
            throw new IllegalArgumentException("out of range");
        }
    }

    private static void checkBaseAndExponent(int base, int exponent) {
        checkRange(base, -BASE_AT_MOST, BASE_AT_MOST);
        checkRange(exponent, 0, EXPONENT_AT_MOST);
    }

    private static void checkDigitBase(int base) {
        checkRange(base, 2, BASE_AT_MOST);
    }

    private static void checkTold(int base, int exponent) {
        if (!isTold(oddOf(base), shiftOf(base), exponent)) {
            throw new UnsupportedOperationException("the power is not told");
        }
    }

    private static void checkPowerNear(int base, int exponent) {
        if (powerUpTo(sizeOf(base), exponent, ODD_AT_MOST) == NONE) {
            throw new UnsupportedOperationException("the power is not near");
        }
    }

    private void checkNear(int slot) {
        if (!isNear(odds[slot], shifts[slot])) {
            throw new IllegalStateException("the number is not near");
        }
    }

    private void checkSquared(int slot) {
        int shift = shifts[slot];
        if (shift < -SQUARED_SHIFT_AT_MOST || shift > SQUARED_SHIFT_AT_MOST) {
            throw new UnsupportedOperationException("the shift is too far from 0");
        }
    }

    // ---- slots

    private int become(int slot, int sign, long odd, int shift) {
        keptSlots[keptNext] = slot;
        keptSigns[keptNext] = signs[slot];
        keptOdds[keptNext] = odds[slot];
        keptShifts[keptNext] = shifts[slot];
        keptNext = (keptNext + 1) % KEPT_AT_MOST;
        if (keptCount < KEPT_AT_MOST) {
            keptCount++;
        }
        signs[slot] = sign;
        odds[slot] = odd;
        shifts[slot] = shift;
        return shift;
    }

    private long slotBits(int slot) {
        return bitsOf(signs[slot], odds[slot], shifts[slot]);
    }

    private long nearSize(int slot) {
        return odds[slot] << shifts[slot];
    }

    // The bits of doubles above 0 stand in the order of the doubles, so those of a size do as a key.
    private long orderKey(int slot) {
        long key = slotBits(slot);
        return key < 0 ? SIGN_BIT - key : key;
    }

    private int placeOf(int slot) {
        long key = orderKey(slot);
        int ahead = 0;
        for (int other = 0; other < SLOTS; other++) {
            long otherKey = orderKey(other);
            if (otherKey < key || (otherKey == key && other < slot)) {
                ahead++;
            }
        }
        return ahead;
    }

    // ---- whole numbers

    private static int signOf(int whole) {
        if (whole == 0) {
            return 0;
        }
        return whole < 0 ? -1 : 1;
    }

    private static long sizeOf(int whole) {
        return whole < 0 ? -(long) whole : whole;
    }

    private static int shiftOf(int whole) {
        if (whole == 0) {
            return 0;
        }
        int places = 0;
        while (places < 31 && ((whole >> places) & 1) == 0) {
            places++;
        }
        return places;
    }

    private static long oddOf(int whole) {
        return sizeOf(whole) >> shiftOf(whole);
    }

    private static boolean isNear(long odd, int shift) {
        return shift >= 0 && shift <= 52 && odd <= ODD_AT_MOST >> shift;
    }

    private static int countDigits(int base, long size) {
        int count = 1;
        long left = size / base;
        while (count < DIGITS_AT_MOST && left > 0) {
            left /= base;
            count++;
        }
        return count;
    }

    // ---- powers

    /** The power of a base not below 0, or NONE where it is above the limit. */
    private static long powerUpTo(long base, int exponent, long limit) {
        long product = 1;
        for (int multiplied = 0; multiplied < exponent; multiplied++) {
            if (base > 0 && product > limit / base) {
                return NONE;
            }
            product *= base;
        }
        return product;
    }

    private static int powerSign(int sign, int exponent) {
        if (exponent == 0) {
            return 1;
        }
        return (exponent & 1) == 0 ? sign * sign : sign;
    }

    /** The odd part of a power, or NONE; an exponent below 0 is told for the odd part 1 alone, and leaves it 1. */
    private static long powerOdd(long odd, int exponent) {
        return powerUpTo(odd, exponent, ODD_AT_MOST);
    }

    private static boolean isTold(long odd, int shift, int exponent) {
        int powerShift = shift * exponent;
        return (exponent >= 0 || odd == 1) && powerOdd(odd, exponent) != NONE
                && powerShift >= -SHIFT_AT_MOST && powerShift <= SHIFT_AT_MOST;
    }

    private static long powerBits(int base, int exponent) {
        return bitsOf(powerSign(signOf(base), exponent), powerOdd(oddOf(base), exponent),
                shiftOf(base) * exponent);
    }

    private static double powerAsDouble(int base, int exponent) {
        return asDouble(powerSign(signOf(base), exponent), powerOdd(oddOf(base), exponent),
                shiftOf(base) * exponent);
    }

    /** The power of a whole number, where checkPowerNear has let it pass. */
    private static long nearPower(int base, int exponent) {
        return powerSign(signOf(base), exponent) * powerUpTo(sizeOf(base), exponent, ODD_AT_MOST);
    }

    // ---- bits and doubles

    /** How often a size above 0 and below 2 to the power of 53 can be doubled so that it stays below that. */
    private static int doublings(long size) {
        int places = 0;
        for (int step = 32; step > 0; step >>= 1) {
            if ((size << places) < (1L << (53 - step))) {
                places += step;
            }
        }
        return places;
    }

    // A mantissa of 2 to the power of 53, as rounding up may leave it, carries into the exponent rightly.
    private static long pack(boolean below, long mantissa, int exponent) {
        long size = mantissa - TWO_TO_52 + (exponent + 1075L) * TWO_TO_52;
        return below ? size | SIGN_BIT : size;
    }

    private static long bitsOf(int sign, long odd, int shift) {
        if (sign == 0) {
            return 0;
        }
        int places = doublings(odd);
        return pack(sign < 0, odd << places, shift - places);
    }

    private static double asDouble(int sign, long odd, int shift) {
        return (double) sign * (double) odd * twoAsDouble(shift);
    }

    private static double twoAsDouble(int exponent) {
        double product = 1;
        double factor = exponent < 0 ? 0.5 : 2.0;
        int left = exponent < 0 ? -exponent : exponent;
        for (int bit = 0; bit < 10; bit++) {
            if (((left >> bit) & 1) == 1) {
                product *= factor;
            }
            // The square after the last one would be beyond the doubles.
            if (bit < 9) {
                factor *= factor;
            }
        }
        return product;
    }

    private static long bitsOfDouble(double number) {
        if (number == 0) {
            return 0;
        }
        double size = number < 0 ? -number : number;
        int exponent = exponentOf(size);
        // Scaled to between 1 and 2 first, as the whole factor might be beyond the doubles.
        long mantissa = (long) (size * twoAsDouble(-exponent) * TWO_TO_52);
        return pack(number < 0, mantissa, exponent - 52);
    }

    /** The greatest exponent by which 2 is not above a size, for sizes from 2 to the power of -1000 to that of 1000. */
    private static int exponentOf(double size) {
        int within = -SHIFT_AT_MOST;
        int above = SHIFT_AT_MOST + 1;
        // Eleven halvings leave one of the 2001 exponents.
        for (int halving = 0; halving < 11; halving++) {
            int middle = (within + above) >> 1;
            if (size >= twoAsDouble(middle)) {
                within = middle;
            } else {
                above = middle;
            }
        }
        return within;
    }

    // ---- roots and squares

    /** The greatest whole number whose square is not above the whole number times 4 to the power of places. */
    private static long floorRoot(int whole, int places) {
        long root = 0;
        long rest = 0;
        // One digit a round, as on paper: pairs of bits of the whole number first, then pairs of 0.
        for (int pair = 5; pair >= -places; pair--) {
            int brought = pair >= 0 ? (whole >> (2 * pair)) & 3 : 0;
            rest = rest * 4 + brought;
            long step = root * 4 + 1;
            root *= 2;
            if (rest >= step) {
                rest -= step;
                root++;
            }
        }
        return root;
    }

    /** How many bits the root has ahead of the point. */
    private static int rootLength(int whole) {
        int length = 0;
        while (length < 6 && (whole >> (2 * length)) > 0) {
            length++;
        }
        return length;
    }

    // No root lies halfway between two doubles, so its 54th bit alone says how to round.
    private static long nearestRoot(int whole) {
        return (floorRoot(whole, 54 - rootLength(whole)) + 1) >> 1;
    }

    private static int rootExponent(int whole) {
        return rootLength(whole) - 53;
    }

    private static long nearestRootBits(int whole) {
        return whole == 0 ? 0 : pack(false, nearestRoot(whole), rootExponent(whole));
    }

    private static long nearestBackBits(int whole) {
        return whole == 0 ? 0 : nearestSquareBits(nearestRoot(whole), rootExponent(whole));
    }

    /**
     * Whether a mantissa is that of the double nearest to the root, as StrictMath.sqrt promises it: whether the
     * root is less than half a step away, told by the difference between its square and that of the mantissa.
     */
    private static boolean isNearestRoot(int whole, long mantissa) {
        if (whole == 0) {
            return mantissa == 0;
        }
        long high = ((long) whole << (52 - 2 * rootLength(whole))) - squareHigh(mantissa);
        if (high < 0 || high > 1) {
            return false;
        }
        long difference = (high << 54) - squareLow(mantissa);
        return difference > -mantissa && difference <= mantissa;
    }

    // A square is its high part times 2 to the power of 54, and its low part.
    private static long squareLow(long size) {
        return (size * size) & LOW_54;
    }

    private static long squareHigh(long size) {
        long upper = size >> 27;
        long lower = size & LOW_27;
        long cross = upper * lower;
        long low = lower * lower + ((cross & LOW_26) << 28);
        return upper * upper + (cross >> 26) + (low >> 54);
    }

    private static long nearestSquareBits(long odd, int shift) {
        if (odd == 0) {
            return 0;
        }
        int places = doublings(odd);
        long high = squareHigh(odd << places);
        long low = squareLow(odd << places);
        // The square of a mantissa has 105 or 106 bits, and 53 stay.
        int dropped = high < TWO_TO_51 ? 52 : 53;
        long mantissa = (high << (54 - dropped)) + (low >> dropped);
        long behind = low & ((1L << dropped) - 1);
        long half = 1L << (dropped - 1);
        if (behind > half || (behind == half && (mantissa & 1) == 1)) {
            mantissa++;
        }
        return pack(false, mantissa, 2 * (shift - places) + dropped);
    }
}
