import java.math.BigDecimal;
import java.math.BigInteger;

/** Promises 28 to 35, sentence by sentence. */
final class RootsSentences {
    private final Book book;
    private final Check check;
    private final Trial trial;

    RootsSentences(Book book) {
        this.book = book;
        this.check = book.check;
        this.trial = book.trial;
    }

    void tell() {
        promise28();
        promise29();
        promise30();
        promise31();
        promise32();
        promise33();
        promise34();
        promise35();
    }

    private void wholeBounds(String what, Trial.CallOf call) {
        book.says("Throws IllegalArgumentException if it is not from 0 to 4095",
                () -> trial.bounds(what, 0, 4095, Trial.ARGUMENT, Trial::filled, call));
    }

    private static long bits(double number) {
        return Double.doubleToLongBits(number);
    }

    private void promise28() {
        book.section("Promise 28: rootBits");
        book.says("Returns the bits of the power of a whole number by 0.5: the double that is nearest to its square "
                + "root.", () -> {
                    for (int whole = 1; whole <= 4095; whole++) {
                        double root = Double.longBitsToDouble(Trial.fresh().rootBits(whole));
                        BigDecimal half = new BigDecimal(StrictMath.ulp(root)).divide(BigDecimal.valueOf(2));
                        BigDecimal below = new BigDecimal(root).subtract(half).pow(2);
                        BigDecimal above = new BigDecimal(root).add(half).pow(2);
                        BigDecimal number = BigDecimal.valueOf(whole);
                        check.due("rootBits(" + whole + ") is the nearest one",
                                below.compareTo(number) < 0 && number.compareTo(above) < 0, true);
                    }
                });
        book.says("Returns the bits.", () -> {
            trial.asks("rootBits(0)", Trial::filled, 0, mill -> mill.rootBits(0));
            trial.asks("rootBits(1)", Trial::filled, bits(1), mill -> mill.rootBits(1));
            trial.asks("rootBits(2)", Trial::filled, 4609047870845172685L, mill -> mill.rootBits(2));
            trial.asks("rootBits(4)", Trial::filled, bits(2), mill -> mill.rootBits(4));
            trial.asks("rootBits(4095)", Trial::filled, 4634202916985495551L, mill -> mill.rootBits(4095));
            for (int root = 0; root <= 63; root++) {
                check.due("rootBits(" + root * root + ")", Trial.fresh().rootBits(root * root), bits(root));
            }
        });
        wholeBounds("rootBits", (mill, whole) -> mill.rootBits(whole));
    }

    private void promise29() {
        book.section("Promise 29: isRoot");
        book.says("Returns whether the power of a whole number by 0.5 has the same bits as its square root by "
                + "StrictMath.sqrt.", () -> {
                    for (int whole = 0; whole <= 4095; whole++) {
                        long root = Trial.fresh().rootBits(whole);
                        check.due("isRoot(" + whole + ")", Trial.fresh().isRoot(whole),
                                root == bits(StrictMath.sqrt(whole)));
                    }
                });
        book.says("Returns whether it has: it always has.", () -> {
            for (int whole = 0; whole <= 4095; whole++) {
                check.due("isRoot(" + whole + ")", Trial.fresh().isRoot(whole), true);
            }
            trial.asks("isRoot(0)", Trial::filled, 1, Trial.is(mill -> mill.isRoot(0)));
            trial.asks("isRoot(4095)", Trial::filled, 1, Trial.is(mill -> mill.isRoot(4095)));
        });
        wholeBounds("isRoot", (mill, whole) -> mill.isRoot(whole) ? 1 : 0);
    }

    private void promise30() {
        book.section("Promise 30: rootAt");
        book.says("Returns the power of a whole number by 0.5, times 2 to the power of so many places, without what is "
                + "behind the point: that is the greatest whole number whose square is not above the whole number "
                + "times 4 to that power.", () -> {
                    for (int whole = 0; whole <= 4095; whole++) {
                        for (int places = 0; places <= 16; places++) {
                            long due = BigInteger.valueOf(whole).shiftLeft(2 * places).sqrt().longValueExact();
                            check.due("rootAt(" + whole + ", " + places + ")",
                                    Trial.fresh().rootAt(whole, places), due);
                        }
                    }
                });
        book.says("Returns that.", () -> {
            trial.asks("rootAt(0, 0)", Trial::filled, 0, mill -> mill.rootAt(0, 0));
            trial.asks("rootAt(0, 16)", Trial::filled, 0, mill -> mill.rootAt(0, 16));
            trial.asks("rootAt(1, 16)", Trial::filled, 65536, mill -> mill.rootAt(1, 16));
            trial.asks("rootAt(3, 0)", Trial::filled, 1, mill -> mill.rootAt(3, 0));
            trial.asks("rootAt(4, 0)", Trial::filled, 2, mill -> mill.rootAt(4, 0));
            trial.asks("rootAt(2, 16)", Trial::filled, 92681, mill -> mill.rootAt(2, 16));
            trial.asks("rootAt(4095, 0)", Trial::filled, 63, mill -> mill.rootAt(4095, 0));
            trial.asks("rootAt(4095, 16)", Trial::filled, 4193791, mill -> mill.rootAt(4095, 16));
        });
        book.says("Throws IllegalArgumentException if the whole number is not from 0 to 4095, or the places not from 0 "
                + "to 16", () -> {
                    for (int places : new int[] {0, 16}) {
                        trial.bounds("rootAt, the whole number", 0, 4095, Trial.ARGUMENT, Trial::filled,
                                (mill, whole) -> mill.rootAt(whole, places));
                    }
                    for (int whole : new int[] {0, 1, 4095}) {
                        trial.bounds("rootAt, the places", 0, 16, Trial.ARGUMENT, Trial::filled,
                                (mill, places) -> mill.rootAt(whole, places));
                    }
                    trial.refuses("rootAt(4096, 17)", Trial::filled, Trial.ARGUMENT, mill -> mill.rootAt(4096, 17));
                });
    }

    private void promise31() {
        book.section("Promise 31: backBits");
        book.says("Returns the bits of the power by 2 of the power of a whole number by 0.5: the double that is "
                + "nearest to the square of that double, of two as near the one whose last bit is 0.", () -> {
                    for (int whole = 0; whole <= 4095; whole++) {
                        double square = new BigDecimal(StrictMath.sqrt(whole)).pow(2).doubleValue();
                        check.due("backBits(" + whole + ")", Trial.fresh().backBits(whole), bits(square));
                    }
                });
        book.says("Returns the bits.", () -> {
            trial.asks("backBits(0)", Trial::filled, 0, mill -> mill.backBits(0));
            trial.asks("backBits(1)", Trial::filled, bits(1), mill -> mill.backBits(1));
            trial.asks("backBits(2)", Trial::filled, 4611686018427387905L, mill -> mill.backBits(2));
            trial.asks("backBits(3)", Trial::filled, 4613937818241073151L, mill -> mill.backBits(3));
            trial.asks("backBits(3969)", Trial::filled, bits(3969), mill -> mill.backBits(3969));
        });
        wholeBounds("backBits", (mill, whole) -> mill.backBits(whole));
    }

    private void promise32() {
        book.section("Promise 32: isBack");
        book.says("Returns whether the power by 2 of the power of a whole number by 0.5 is that number.", () -> {
            for (int whole = 0; whole <= 4095; whole++) {
                double root = StrictMath.sqrt(whole);
                check.due("isBack(" + whole + ")", Trial.fresh().isBack(whole), root * root == whole);
            }
        });
        book.says("Returns whether it is.", () -> {
            trial.asks("isBack(0)", Trial::filled, 1, Trial.is(mill -> mill.isBack(0)));
            trial.asks("isBack(1)", Trial::filled, 1, Trial.is(mill -> mill.isBack(1)));
            trial.asks("isBack(2)", Trial::filled, 0, Trial.is(mill -> mill.isBack(2)));
            trial.asks("isBack(3)", Trial::filled, 0, Trial.is(mill -> mill.isBack(3)));
            trial.asks("isBack(11), no square that comes back", Trial::filled, 1, Trial.is(mill -> mill.isBack(11)));
            trial.asks("isBack(3969)", Trial::filled, 1, Trial.is(mill -> mill.isBack(3969)));
        });
        wholeBounds("isBack", (mill, whole) -> mill.isBack(whole) ? 1 : 0);
    }

    private void promise33() {
        book.section("Promise 33: squareBits");
        book.says("Returns the bits of the power by 2 of a number: the double that is nearest to its square, of two as "
                + "near the one whose last bit is 0.", this::squares);
        book.says("Returns the bits.", () -> {
            trial.asks("squareBits of 0", Trial::fresh, 0, mill -> mill.squareBits(0));
            trial.asks("squareBits of 1", Trial.whole(1), bits(1), mill -> mill.squareBits(0));
            trial.asks("squareBits of -1", Trial.whole(-1), bits(1), mill -> mill.squareBits(0));
            trial.asks("squareBits of -12", Trial.whole(-12), bits(144), mill -> mill.squareBits(0));
            for (int exponent = -400; exponent <= 400; exponent++) {
                check.due("squareBits of 2 to the power of " + exponent, Trial.two(exponent).get().squareBits(0),
                        bits(StrictMath.scalb(1.0, 2 * exponent)));
            }
        });
        book.says("Throws IndexOutOfBoundsException if there is no such slot",
                () -> trial.slotBounds("squareBits", (mill, slot) -> mill.squareBits(slot)));
        book.says("Throws UnsupportedOperationException if its shift is not from -400 to 400",
                () -> shiftBounds("squareBits", mill -> mill.squareBits(0)));
    }

    private void squares() {
        // The squares of these two odd parts, with 54 bits, lie halfway between two doubles.
        trial.asks("squareBits of 3 to the power of 17", Trial.power(3, 17), bits(0x1p1 * 8338590849833284.0),
                mill -> mill.squareBits(0));
        trial.asks("squareBits of -41 to the power of 5", Trial.power(-41, 5), bits(0x1p1 * 6711329655076200.0),
                mill -> mill.squareBits(0));
        int up = 0;
        int down = 0;
        for (int base = 3; base <= 63; base++) {
            for (int exponent = 1; exponent <= 64; exponent++) {
                BigInteger power = BigInteger.valueOf(base >> Integer.numberOfTrailingZeros(base)).pow(exponent);
                if (power.bitLength() <= 53) {
                    int shift = exponent * Integer.numberOfTrailingZeros(base);
                    BigInteger square = power.pow(2);
                    double due = square.doubleValue();
                    up += new BigDecimal(due).compareTo(new BigDecimal(square)) > 0 ? 1 : 0;
                    down += new BigDecimal(due).compareTo(new BigDecimal(square)) < 0 ? 1 : 0;
                    check.due("squareBits of " + base + " to the power of " + exponent,
                            Trial.power(base, exponent).get().squareBits(0), bits(StrictMath.scalb(due, 2 * shift)));
                    check.due("squareBits of -" + base + " to the power of " + exponent,
                            Trial.power(-base, exponent).get().squareBits(0), bits(StrictMath.scalb(due, 2 * shift)));
                }
            }
        }
        check.due("squares that are rounded up, and down", up > 10 && down > 10, true);
    }

    private void shiftBounds(String what, Trial.Call call) {
        for (int shift : new int[] {-400, -399, 0, 399, 400}) {
            trial.passes(what + " at the shift " + shift, Trial.two(shift), call);
        }
        for (int shift : new int[] {-1000, -999, -402, -401, 401, 402, 999, 1000}) {
            trial.refuses(what + " at the shift " + shift, Trial.two(shift), Trial.UNSUPPORTED, call);
        }
    }

    private void promise34() {
        book.section("Promise 34: isTimes");
        book.says("Returns whether the power by 2 of a number has the same bits as its product with itself, multiplied "
                + "as doubles.", () -> {
                    trial.asks("isTimes of 0", Trial::fresh, 1, Trial.is(mill -> mill.isTimes(0)));
                    trial.asks("isTimes of -3 to the power of 17, halfway", Trial.power(-3, 17), 1,
                            Trial.is(mill -> mill.isTimes(0)));
                    trial.asks("isTimes of 2 to the power of 400", Trial.two(400), 1,
                            Trial.is(mill -> mill.isTimes(0)));
                    trial.asks("isTimes of 2 to the power of -400", Trial.two(-400), 1,
                            Trial.is(mill -> mill.isTimes(0)));
                });
        book.says("Returns whether it has: it always has.", () -> {
            for (int base = -64; base <= 64; base++) {
                for (int exponent = 0; exponent <= 64 && Exact.isTold(base, exponent); exponent++) {
                    check.due("isTimes of " + base + " to the power of " + exponent,
                            Trial.power(base, exponent).get().isTimes(0), true);
                }
            }
            for (int exponent = -400; exponent <= 400; exponent++) {
                check.due("isTimes of 2 to the power of " + exponent, Trial.two(exponent).get().isTimes(0), true);
            }
        });
        book.says("Throws IndexOutOfBoundsException if there is no such slot",
                () -> trial.slotBounds("isTimes", (mill, slot) -> mill.isTimes(slot) ? 1 : 0));
        book.says("Throws UnsupportedOperationException if its shift is not from -400 to 400",
                () -> shiftBounds("isTimes", Trial.is(mill -> mill.isTimes(0))));
    }

    private void promise35() {
        book.section("Promise 35: isSound");
        book.says("Returns whether each number has the same bits as its sign, its odd part and the power of 2 by its "
                + "shift, multiplied as doubles.", () -> {
                    trial.asks("isSound() of a new object", Trial::fresh, 1, Trial.is(mill -> mill.isSound()));
                    trial.asks("isSound() of eight numbers", Trial::filled, 1, Trial.is(mill -> mill.isSound()));
                    for (int slot = 0; slot < 8; slot++) {
                        Powermill mill = Trial.filled();
                        mill.power(slot, -59, 9);
                        double power = StrictMath.scalb(1.0, mill.shift(slot));
                        double product = mill.sign(slot) * (double) mill.odd(slot) * power;
                        check.due("isSound() with slot " + slot, mill.isSound(), bits(product) == mill.bits(slot));
                    }
                });
        book.says("Returns whether they have: they always have.", () -> {
            for (int exponent = -1000; exponent <= 1000; exponent++) {
                check.due("isSound() with 2 to the power of " + exponent, Trial.two(exponent).get().isSound(), true);
            }
            for (int base = -64; base <= 64; base++) {
                for (int exponent = 0; exponent <= 64 && Exact.isTold(base, exponent); exponent++) {
                    check.due("isSound() with " + base + " to the power of " + exponent,
                            Trial.power(base, exponent).get().isSound(), true);
                }
            }
        });
    }
}
