import java.math.BigDecimal;
import java.math.BigInteger;
import java.util.ArrayDeque;
import java.util.Iterator;
import java.util.NoSuchElementException;

/** The document told a second time, over BigInteger, BigDecimal and StrictMath: what each call is due to answer. */
final class Model {
    private static final BigInteger LIMIT = BigInteger.ONE.shiftLeft(53);

    /** A number: the whole number, odd or 0, times 2 to the power of the shift. */
    static final class Number {
        final BigInteger signedOdd;
        final int shift;

        private Number(BigInteger signedOdd, int shift) {
            this.signedOdd = signedOdd;
            this.shift = shift;
        }

        static Number of(BigInteger whole) {
            if (whole.signum() == 0) {
                return new Number(BigInteger.ZERO, 0);
            }
            int shift = whole.getLowestSetBit();
            return new Number(whole.shiftRight(shift), shift);
        }

        static Number twoTo(int exponent) {
            return new Number(BigInteger.ONE, exponent);
        }

        boolean isZero() {
            return signedOdd.signum() == 0;
        }

        BigInteger whole() {
            return signedOdd.shiftLeft(shift);
        }

        boolean isNear() {
            return shift >= 0 && whole().abs().compareTo(LIMIT) < 0;
        }

        double asDouble() {
            return StrictMath.scalb(signedOdd.doubleValue(), shift);
        }

        String parts() {
            return signedOdd.signum() + " " + signedOdd.abs() + " " + shift;
        }

        /** The number times 2 to the power of 1000, which is whole. */
        BigInteger lifted() {
            return signedOdd.shiftLeft(shift + 1000);
        }
    }

    private static final class Change {
        final int slot;
        final Number held;

        Change(int slot, Number held) {
            this.slot = slot;
            this.held = held;
        }
    }

    private final Number[] slots = new Number[8];
    private final ArrayDeque<Change> changes = new ArrayDeque<>();

    Model() {
        for (int slot = 0; slot < 8; slot++) {
            slots[slot] = Number.of(BigInteger.ZERO);
        }
    }

    /** All that is held and kept, in the words of Trial.state. */
    String state() {
        StringBuilder text = new StringBuilder();
        for (int slot = 0; slot < 8; slot++) {
            text.append(slots[slot].parts()).append(", ");
        }
        text.append("kept ").append(changes.size());
        Iterator<Change> latestFirst = changes.descendingIterator();
        while (latestFirst.hasNext()) {
            Change change = latestFirst.next();
            text.append(", ").append(change.slot).append(" back to ").append(change.held.parts());
        }
        return text.append(", then throws NoSuchElementException").toString();
    }

    private static void slotIs(boolean good) {
        if (!good) {
            throw new IndexOutOfBoundsException();
        }
    }

    private static void argumentIs(boolean good) {
        if (!good) {
            throw new IllegalArgumentException();
        }
    }

    private static void stateIs(boolean good) {
        if (!good) {
            throw new IllegalStateException();
        }
    }

    private static void reckonedIs(boolean good) {
        if (!good) {
            throw new ArithmeticException();
        }
    }

    private static void toldIs(boolean good) {
        if (!good) {
            throw new UnsupportedOperationException();
        }
    }

    private static boolean within(int value, int least, int greatest) {
        return least <= value && value <= greatest;
    }

    private static boolean slot(int slot) {
        return within(slot, 0, 7);
    }

    private static BigInteger big(long value) {
        return BigInteger.valueOf(value);
    }

    private int become(int slot, Number number) {
        changes.addLast(new Change(slot, slots[slot]));
        if (changes.size() > 8) {
            changes.removeFirst();
        }
        slots[slot] = number;
        return number.shift;
    }

    /** The power, or null where it is not told. */
    static Number power(Number base, int exponent) {
        if (base.isZero() || exponent == 0) {
            return Number.of(exponent == 0 ? BigInteger.ONE : BigInteger.ZERO);
        }
        if (exponent < 0 && !base.signedOdd.abs().equals(BigInteger.ONE)) {
            return null;
        }
        BigInteger odd = base.signedOdd.pow(Math.abs(exponent));
        int shift = base.shift * exponent;
        return odd.abs().compareTo(LIMIT) >= 0 || !within(shift, -1000, 1000) ? null : new Number(odd, shift);
    }

    static Number power(int base, int exponent) {
        return power(Number.of(big(base)), exponent);
    }

    int put(int slot, int whole) {
        slotIs(slot(slot));
        argumentIs(within(whole, -64, 64));
        return become(slot, Number.of(big(whole)));
    }

    int power(int slot, int base, int exponent) {
        slotIs(slot(slot));
        argumentIs(within(base, -64, 64) && within(exponent, 0, 64));
        Number power = power(base, exponent);
        toldIs(power != null);
        return become(slot, power);
    }

    int twoTo(int slot, int exponent) {
        slotIs(slot(slot));
        argumentIs(within(exponent, -1000, 1000));
        return become(slot, Number.twoTo(exponent));
    }

    int raise(int slot, int exponent, int to) {
        slotIs(slot(slot) && slot(to));
        argumentIs(within(exponent, -64, 64));
        stateIs(slots[slot].shift >= 0);
        reckonedIs(!slots[slot].isZero() || exponent >= 0);
        Number power = power(slots[slot], exponent);
        toldIs(power != null);
        return become(to, power);
    }

    int copy(int slot, int to) {
        slotIs(slot(slot) && slot(to));
        return become(to, slots[slot]);
    }

    int undo() {
        if (changes.isEmpty()) {
            throw new NoSuchElementException();
        }
        Change change = changes.removeLast();
        slots[change.slot] = change.held;
        return change.slot;
    }

    int kept() {
        return changes.size();
    }

    int sign(int slot) {
        slotIs(slot(slot));
        return slots[slot].signedOdd.signum();
    }

    long odd(int slot) {
        slotIs(slot(slot));
        return slots[slot].signedOdd.abs().longValueExact();
    }

    int shift(int slot) {
        slotIs(slot(slot));
        return slots[slot].shift;
    }

    long bits(int slot) {
        slotIs(slot(slot));
        return Double.doubleToLongBits(slots[slot].asDouble());
    }

    boolean isWhole(int slot) {
        slotIs(slot(slot));
        return slots[slot].shift >= 0;
    }

    long whole(int slot) {
        slotIs(slot(slot));
        stateIs(slots[slot].isNear());
        return slots[slot].whole().longValueExact();
    }

    int compare(int slot, int other) {
        slotIs(slot(slot) && slot(other));
        return slots[slot].lifted().compareTo(slots[other].lifted());
    }

    int rank(int slot) {
        slotIs(slot(slot));
        int less = 0;
        for (int other = 0; other < 8; other++) {
            less += compare(other, slot) < 0 ? 1 : 0;
        }
        return less;
    }

    int at(int place) {
        slotIs(slot(place));
        Integer[] order = {0, 1, 2, 3, 4, 5, 6, 7};
        // A sort of objects keeps same ones as they stood, the lesser slot first.
        java.util.Arrays.sort(order, this::compare);
        return order[place];
    }

    int log(int base, int slot) {
        slotIs(slot(slot));
        argumentIs(within(base, 2, 64));
        stateIs(slots[slot].isNear());
        reckonedIs(slots[slot].signedOdd.signum() > 0);
        int exponent = 0;
        while (big(base).pow(exponent + 1).compareTo(slots[slot].whole()) <= 0) {
            exponent++;
        }
        return exponent;
    }

    int digits(int base, int slot) {
        slotIs(slot(slot));
        argumentIs(within(base, 2, 64));
        stateIs(slots[slot].isNear());
        int count = 1;
        while (big(base).pow(count).compareTo(slots[slot].whole().abs()) <= 0) {
            count++;
        }
        return count;
    }

    int digit(int base, int slot, int place) {
        slotIs(slot(slot));
        argumentIs(within(base, 2, 64) && place >= 0);
        stateIs(slots[slot].isNear());
        BigInteger scale = big(base).pow(Math.min(place, 60));
        return slots[slot].whole().abs().divide(scale).mod(big(base)).intValueExact();
    }

    int root(int degree, int slot) {
        slotIs(slot(slot));
        argumentIs(within(degree, 1, 53));
        stateIs(slots[slot].isNear());
        reckonedIs(slots[slot].signedOdd.signum() >= 0);
        int root = 64;
        while (big(root).pow(degree).compareTo(slots[slot].whole()) > 0) {
            root--;
        }
        return root;
    }

    private static BigInteger nearPower(int base, int exponent) {
        BigInteger power = big(base).pow(exponent);
        toldIs(power.abs().compareTo(LIMIT) < 0);
        return power;
    }

    static long sum(int base, int many) {
        argumentIs(within(base, -64, 64) && within(many, 0, 64));
        nearPower(base, many);
        BigInteger sum = BigInteger.ZERO;
        for (int exponent = 0; exponent < many; exponent++) {
            sum = sum.add(big(base).pow(exponent));
        }
        return sum.longValueExact();
    }

    static int rest(int base, int exponent, int by) {
        argumentIs(within(base, -64, 64) && within(exponent, 0, 64) && within(by, 1, 1000));
        return nearPower(base, exponent).mod(big(by)).intValueExact();
    }

    static boolean isFermat(int base, int by) {
        argumentIs(within(base, -64, 64) && within(by, 1, 64));
        return nearPower(base, by).subtract(big(base)).mod(big(by)).signum() == 0;
    }

    static boolean isChain(int base, int exponent) {
        argumentIs(within(base, -64, 64) && within(exponent, 0, 64));
        toldIs(power(base, exponent) != null);
        return true;
    }

    static boolean addsUp(int base, int exponent, int other) {
        argumentIs(within(base, -64, 64) && within(exponent, 0, 64) && within(other, 0, 64)
                && within(exponent + other, 0, 64));
        toldIs(power(base, exponent + other) != null);
        return true;
    }

    static boolean isNested(int base, int exponent, int other) {
        argumentIs(within(base, -64, 64) && within(exponent, 0, 64) && within(other, 0, 64)
                && within(exponent * other, 0, 64));
        toldIs(power(base, exponent) != null && power(base, exponent * other) != null);
        return true;
    }

    static long rootBits(int whole) {
        argumentIs(within(whole, 0, 4095));
        return Double.doubleToLongBits(StrictMath.sqrt(whole));
    }

    static boolean isRoot(int whole) {
        argumentIs(within(whole, 0, 4095));
        return true;
    }

    static long rootAt(int whole, int places) {
        argumentIs(within(whole, 0, 4095) && within(places, 0, 16));
        return big(whole).shiftLeft(2 * places).sqrt().longValueExact();
    }

    static long backBits(int whole) {
        argumentIs(within(whole, 0, 4095));
        return Double.doubleToLongBits(nearestSquare(StrictMath.sqrt(whole)));
    }

    static boolean isBack(int whole) {
        return backBits(whole) == Double.doubleToLongBits(whole);
    }

    private static double nearestSquare(double number) {
        return new BigDecimal(number).pow(2).doubleValue();
    }

    long squareBits(int slot) {
        slotIs(slot(slot));
        toldIs(within(slots[slot].shift, -400, 400));
        return Double.doubleToLongBits(nearestSquare(slots[slot].asDouble()));
    }

    boolean isTimes(int slot) {
        slotIs(slot(slot));
        toldIs(within(slots[slot].shift, -400, 400));
        return true;
    }

    boolean isSound() {
        return true;
    }
}
