import java.math.BigDecimal;
import java.math.BigInteger;
import java.util.ArrayList;
import java.util.List;
import java.util.function.Supplier;

/** 'What it is', and of 'Terms' all but the last paragraph: Theorem, Numbers, Powers, Digits, Keeping. */
final class TermsSentences {
    private final Book book;
    private final Check check;
    private final Trial trial;

    TermsSentences(Book book) {
        this.book = book;
        this.check = book.check;
        this.trial = book.trial;
    }

    void tell() {
        book.section("What it is");
        book.says("Powers of whole numbers, and square roots, over java.lang.StrictMath (pow and sqrt) of the JDK; "
                + "what is told here is what these promise, and what is told of powers by 0.5 and by 2.",
                this::asStrictMath);
        book.says("An object is used for at most 512 calls after it has been made; what later calls answer is free.",
                this::calls512);
        book.section("Terms");
        theorem();
        numbers();
        powers();
        digits();
        keeping();
    }

    private void asStrictMath() {
        for (int base = -64; base <= 64; base++) {
            for (int exponent = 0; exponent <= 64 && Exact.isTold(base, exponent); exponent++) {
                check.due(base + " to the power of " + exponent + ", by pow", Trial.power(base, exponent).get().bits(0),
                        Double.doubleToLongBits(StrictMath.pow(base, exponent)));
            }
        }
        for (int exponent = -1000; exponent <= 1000; exponent++) {
            check.due("2 to the power of " + exponent + ", by pow", Trial.two(exponent).get().bits(0),
                    Double.doubleToLongBits(StrictMath.pow(2, exponent)));
        }
        for (int whole = 0; whole <= 4095; whole++) {
            check.due("the root of " + whole + ", by sqrt", Trial.fresh().rootBits(whole),
                    Double.doubleToLongBits(StrictMath.sqrt(whole)));
        }
    }

    private void calls512() {
        Powermill mill = new Powermill();
        for (int call = 1; call <= 510; call++) {
            int whole = call % 64 + 1;
            check.due("put, as call " + call, mill.put(call % 8, whole), Exact.shift(whole));
        }
        check.due("kept(), as call 511", mill.kept(), 8);
        check.due("undo(), as call 512", mill.undo(), 510 % 8);
    }

    // ---- Theorem

    private void theorem() {
        book.says("Theorem. A power that is told is the exact one, bit by bit: the product of so many factors, whether "
                + "it is reckoned by whole numbers or by doubles multiplied one after another.", this::exactPowers);
        book.says("Its odd part is the power of the base's odd part, its shift the exponent times the base's shift; so "
                + "2 to the power of n has the bits (n + 1023) times 2 to the power of 52.", this::oddPartsAndShifts);
        book.says("Two powers of one base, multiplied as doubles, are the power by the sum of the exponents, and a "
                + "power of a power is the power by their product, bit by bit, where these are told.",
                this::sumsAndProductsOfExponents);
        book.says("A number is at least the power of a base by its logarithm and less than the next one; its digits, "
                + "each times its power of the base, are together its size; it is at least the power of its root by "
                + "the degree and, where the root is below 64, less than that of the next whole number.",
                this::logarithmsDigitsAndRoots);
        book.says("The sum of the first n powers of a base, times the base less 1, is the power by n, less 1; the "
                + "power by a prime, less the base, is a multiple of the prime.", this::sumsAndPrimes);
        book.says("The power of a whole number by 0.5 is the double nearest to its square root, the same as by "
                + "StrictMath.sqrt; the power of a double by 2 is the double nearest to its exact square, of two as "
                + "near that whose last bit is 0, the same as the product with itself; so squares of whole numbers "
                + "come back, and others come back just if that rounding says so.", this::rootsAndSquares);
    }

    private static BigInteger big(long value) {
        return BigInteger.valueOf(value);
    }

    private void exactPowers() {
        for (int base = -64; base <= 64; base++) {
            double product = 1;
            for (int exponent = 0; exponent <= 64 && Exact.isTold(base, exponent); exponent++) {
                Powermill mill = Trial.power(base, exponent).get();
                String what = "the bits of " + base + " to the power of " + exponent;
                check.due(what, mill.bits(0), Double.doubleToLongBits(Exact.power(base, exponent).doubleValue()));
                check.due(what + ", by doubles", mill.bits(0), Double.doubleToLongBits(product));
                product *= base;
            }
        }
    }

    private void oddPartsAndShifts() {
        for (int base = -64; base <= 64; base++) {
            for (int exponent = 1; base != 0 && exponent <= 64 && Exact.isTold(base, exponent); exponent++) {
                Powermill mill = Trial.power(base, exponent).get();
                int size = Math.abs(base);
                BigInteger odd = big(size >> Exact.shift(size)).pow(exponent);
                String what = base + " to the power of " + exponent;
                check.due("the odd part of " + what, mill.odd(0), odd.longValueExact());
                check.due("the shift of " + what, mill.shift(0), exponent * Exact.shift(size));
            }
        }
        for (int exponent = -1000; exponent <= 1000; exponent++) {
            Powermill mill = Trial.two(exponent).get();
            check.due("the bits of 2 to the power of " + exponent, mill.bits(0), (exponent + 1023L) * (1L << 52));
        }
    }

    private void sumsAndProductsOfExponents() {
        for (int base = -64; base <= 64; base++) {
            for (int one = 0; one <= 64; one++) {
                for (int other = 0; other <= 64; other++) {
                    if (one + other <= 64 && Exact.isTold(base, one + other)) {
                        sumOfExponents(base, one, other);
                    }
                    if (one * other <= 64 && Exact.isTold(base, one) && Exact.isTold(base, one * other)) {
                        productOfExponents(base, one, other);
                    }
                }
            }
        }
    }

    private void sumOfExponents(int base, int one, int other) {
        double first = Double.longBitsToDouble(Trial.power(base, one).get().bits(0));
        double second = Double.longBitsToDouble(Trial.power(base, other).get().bits(0));
        check.due(base + " to the powers of " + one + " and " + other, Double.doubleToLongBits(first * second),
                Trial.power(base, one + other).get().bits(0));
    }

    private void productOfExponents(int base, int one, int other) {
        Powermill mill = Trial.power(base, one).get();
        mill.raise(0, other, 1);
        check.due(base + " to the power of " + one + ", to that of " + other, mill.bits(1),
                Trial.power(base, one * other).get().bits(0));
    }

    /** Every whole number from -64 to 64, and every power that is near, as a base and an exponent. */
    private static List<int[]> nearPowers() {
        List<int[]> found = new ArrayList<>();
        for (int base = -64; base <= 64; base++) {
            for (int exponent = 1; exponent <= 64; exponent++) {
                boolean near = Exact.isNear(base, exponent);
                if (near && (exponent == 1 || Math.abs(base) > 1)) {
                    found.add(new int[] {base, exponent});
                }
            }
        }
        return found;
    }

    private void logarithmsDigitsAndRoots() {
        for (int[] near : nearPowers()) {
            BigInteger number = big(near[0]).pow(near[1]);
            Supplier<Powermill> made = Trial.power(near[0], near[1]);
            for (int base = 2; base <= 64; base++) {
                Powermill mill = made.get();
                if (number.signum() > 0) {
                    int log = mill.log(base, 0);
                    boolean fits = Exact.power(base, log).compareTo(number) <= 0
                            && Exact.power(base, log + 1).compareTo(number) > 0;
                    check.due("log(" + base + ") of " + number + " is " + log, fits, true);
                }
                BigInteger total = BigInteger.ZERO;
                for (int place = mill.digits(base, 0) - 1; place >= 0; place--) {
                    total = total.multiply(big(base)).add(big(mill.digit(base, 0, place)));
                }
                check.due("the digits of " + number + " to " + base, total.toString(), number.abs().toString());
            }
            Powermill mill = made.get();
            for (int degree = 1; degree <= 53 && number.signum() >= 0; degree++) {
                int root = mill.root(degree, 0);
                boolean fits = root <= 64 && big(root).pow(degree).compareTo(number) <= 0
                        && (root == 64 || big(root + 1).pow(degree).compareTo(number) > 0);
                check.due("root(" + degree + ") of " + number + " is " + root, fits, true);
            }
        }
    }

    private void sumsAndPrimes() {
        int[] primes = {2, 3, 5, 7, 11, 13, 17, 19, 23, 29, 31, 37, 41, 43, 47, 53, 59, 61};
        for (int base = -64; base <= 64; base++) {
            for (int many = 0; many <= 64; many++) {
                if (Exact.isNear(base, many)) {
                    BigInteger sum = big(Trial.fresh().sum(base, many));
                    check.due("sum(" + base + ", " + many + ") times the base less 1",
                            sum.multiply(big(base - 1)).toString(),
                            Exact.power(base, many).subtract(BigInteger.ONE).toString());
                }
            }
            check.due("sum(1, " + Math.abs(base) + ")", Trial.fresh().sum(1, Math.abs(base)), Math.abs(base));
            for (int prime : primes) {
                if (Exact.isNear(base, prime)) {
                    check.due("isFermat(" + base + ", " + prime + ")", Trial.fresh().isFermat(base, prime), true);
                }
            }
        }
    }

    private void rootsAndSquares() {
        for (int whole = 0; whole <= 4095; whole++) {
            Powermill mill = new Powermill();
            double root = StrictMath.sqrt(whole);
            double square = new BigDecimal(root).pow(2).doubleValue();
            check.due("rootBits(" + whole + ")", mill.rootBits(whole), Double.doubleToLongBits(root));
            check.due("rootBits(" + whole + ") by pow", mill.rootBits(whole),
                    Double.doubleToLongBits(StrictMath.pow(whole, 0.5)));
            check.due("backBits(" + whole + ")", mill.backBits(whole), Double.doubleToLongBits(square));
            check.due("backBits(" + whole + ") by pow", mill.backBits(whole),
                    Double.doubleToLongBits(StrictMath.pow(root, 2)));
            check.due("isBack(" + whole + ")", mill.isBack(whole), square == whole);
        }
        for (int root = 0; root <= 63; root++) {
            check.due("isBack(" + root * root + "), a square", Trial.fresh().isBack(root * root), true);
        }
        for (int base = -64; base <= 64; base++) {
            for (int exponent = 0; exponent <= 64 && Exact.isTold(base, exponent); exponent++) {
                Powermill mill = Trial.power(base, exponent).get();
                double number = Exact.power(base, exponent).doubleValue();
                String what = "squareBits of " + base + " to the power of " + exponent;
                check.due(what, mill.squareBits(0),
                        Double.doubleToLongBits(new BigDecimal(number).pow(2).doubleValue()));
                check.due(what + ", by the product", mill.squareBits(0), Double.doubleToLongBits(number * number));
            }
        }
    }

    // ---- Numbers

    private void numbers() {
        book.says("Numbers. There are the slots 0 to 7, each with a number, 0 at first.", this::slots);
        book.says("Each number but 0 is its sign, its odd part, an odd whole number from 1 on, and 2 to the power of "
                + "its shift, multiplied; 0 has the sign 0, the odd part 0 and the shift 0.", this::parts);
        book.says("Its size is the number without its sign.", this::sizes);
        book.says("It is whole if its shift is not below 0, and near if it is whole and its size less than 2 to the "
                + "power of 53.", this::wholeAndNear);
        book.says("Odd parts are less than that always, and shifts from -1000 to 1000; so each number is a double "
                + "exactly.", this::oddPartsAndShiftsAtMost);
        book.says("Its bits are those of that double, as Double.doubleToLongBits tells them: let its size be m times 2 "
                + "to the power of e, with m whole, at least 2 to the power of 52, and less than 2 to the power of 53; "
                + "the bits are m less 2 to the power of 52, e and 1075 together times 2 to the power of 52, and the "
                + "highest bit if the number is below 0; those of 0 are 0.", this::bits);
    }

    private void slots() {
        for (int slot = 0; slot <= 7; slot++) {
            int at = slot;
            check.due("slot " + slot + " at first", Trial.slot(Trial.fresh(), slot), "0 0 0");
            trial.becomes("put(" + slot + ", -3)", Trial::fresh, slot, "-1 3 0", mill -> mill.put(at, -3));
            trial.becomes("twoTo(" + slot + ", -3)", Trial::filled, slot, "1 1 -3", mill -> mill.twoTo(at, -3));
        }
        trial.refuses("sign(-1)", Trial::filled, Trial.INDEX, mill -> mill.sign(-1));
        trial.refuses("sign(8)", Trial::filled, Trial.INDEX, mill -> mill.sign(8));
    }

    private void parts() {
        for (int whole = -64; whole <= 64; whole++) {
            Powermill mill = Trial.whole(whole).get();
            long odd = mill.odd(0);
            check.due("the parts of " + whole, mill.sign(0) * odd << mill.shift(0), whole);
            check.due("the odd part of " + whole + " is odd", odd % 2, whole == 0 ? 0 : 1);
            check.due("the odd part of " + whole + " is from 1 on", odd >= 1, whole != 0);
        }
        check.due("0 by put", Trial.slot(Trial.holding(5, 0).get(), 1), "0 0 0");
        check.due("0 by power", Trial.slot(Trial.power(0, 64).get(), 0), "0 0 0");
        Powermill mill = Trial.filled();
        mill.raise(0, 64, 1);
        mill.copy(0, 3);
        check.due("0 by raise, over 12", Trial.slot(mill, 1), "0 0 0");
        check.due("0 by copy, over a quarter", Trial.slot(mill, 3), "0 0 0");
        check.due("bits of 0, over a quarter", mill.bits(3), 0);
    }

    private void sizes() {
        for (int whole = 1; whole <= 64; whole++) {
            Powermill mill = Trial.holding(whole, -whole).get();
            check.due("the odd parts of " + whole + " and below 0", mill.odd(1), mill.odd(0));
            check.due("the shifts of " + whole + " and below 0", mill.shift(1), mill.shift(0));
            check.due("the digits of " + whole + " and below 0", mill.digits(2, 1), mill.digits(2, 0));
            check.due("the bits of " + whole + " and below 0", mill.bits(1), mill.bits(0) ^ Long.MIN_VALUE);
        }
    }

    private void wholeAndNear() {
        wholeOrNear(Trial::fresh, "0", true, true);
        wholeOrNear(Trial.two(0), "1", true, true);
        wholeOrNear(Trial.two(-1), "a half", false, false);
        wholeOrNear(Trial.two(-1000), "2 to the power of -1000", false, false);
        wholeOrNear(Trial.two(52), "2 to the power of 52", true, true);
        wholeOrNear(Trial.two(53), "2 to the power of 53", true, false);
        wholeOrNear(Trial.two(54), "2 to the power of 54", true, false);
        wholeOrNear(Trial.two(63), "2 to the power of 63", true, false);
        wholeOrNear(Trial.two(64), "2 to the power of 64", true, false);
        wholeOrNear(Trial.two(1000), "2 to the power of 1000", true, false);
        for (int base = -64; base <= 64; base++) {
            for (int exponent = 0; exponent <= 64 && Exact.isTold(base, exponent); exponent++) {
                boolean near = Exact.isNear(base, exponent);
                wholeOrNear(Trial.power(base, exponent), base + " to the power of " + exponent, true, near);
            }
        }
    }

    private void wholeOrNear(Supplier<Powermill> made, String what, boolean whole, boolean near) {
        trial.asks("isWhole of " + what, made, whole ? 1 : 0, Trial.is(mill -> mill.isWhole(0)));
        if (near) {
            trial.passes("whole of " + what, made, mill -> mill.whole(0));
        } else {
            trial.refuses("whole of " + what, made, Trial.STATE, mill -> mill.whole(0));
        }
    }

    private void oddPartsAndShiftsAtMost() {
        // 59 to the power of 9 is the greatest odd part that a base's power reaches, and 17 to that of 13 the next one.
        trial.becomes("power(2, 59, 9)", Trial::filled, 2, "1 8662995818654939 0", mill -> mill.power(2, 59, 9));
        trial.refuses("power(2, 17, 13)", Trial::filled, Trial.UNSUPPORTED, mill -> mill.power(2, 17, 13));
        trial.becomes("twoTo(2, 1000)", Trial::filled, 2, "1 1 1000", mill -> mill.twoTo(2, 1000));
        trial.becomes("twoTo(2, -1000)", Trial::filled, 2, "1 1 -1000", mill -> mill.twoTo(2, -1000));
        trial.refuses("twoTo(2, 1001)", Trial::filled, Trial.ARGUMENT, mill -> mill.twoTo(2, 1001));
        trial.refuses("twoTo(2, -1001)", Trial::filled, Trial.ARGUMENT, mill -> mill.twoTo(2, -1001));
        trial.asks("isSound() at the bounds", () -> {
            Powermill mill = Trial.filled();
            mill.twoTo(1, 1000);
            mill.twoTo(2, -1000);
            mill.power(3, -59, 9);
            mill.power(4, -48, 33);
            return mill;
        }, 1, Trial.is(mill -> mill.isSound()));
    }

    private void bits() {
        check.due("the bits of 0", Trial.fresh().bits(0), 0);
        for (int whole = -64; whole <= 64; whole++) {
            check.due("the bits of " + whole, Trial.whole(whole).get().bits(0), Double.doubleToLongBits(whole));
        }
        for (int base = -64; base <= 64; base++) {
            for (int exponent = 0; base != 0 && exponent <= 64 && Exact.isTold(base, exponent); exponent++) {
                BigInteger power = Exact.power(base, exponent);
                // m has 53 bits; it is whole here, be e below 0 or not.
                int e = power.abs().bitLength() - 53;
                BigInteger m = e < 0 ? power.abs().shiftLeft(-e) : power.abs().shiftRight(e);
                BigInteger due = m.subtract(big(1L << 52)).add(big(e + 1075).shiftLeft(52));
                check.due("the bits of " + base + " to the power of " + exponent,
                        Trial.power(base, exponent).get().bits(0),
                        due.longValueExact() | (power.signum() < 0 ? Long.MIN_VALUE : 0));
            }
        }
    }

    // ---- Powers

    private void powers() {
        book.says("Powers. The power of a number by 0 is 1, of 0, too; by a whole number above 0 it is the product of "
                + "so many factors; by one below 0 it is 1 divided by the power by its size.",
                this::exponentsOfBothSigns);
        book.says("Powers by whole numbers are asked of whole bases alone.", this::wholeBases);
        book.says("A power of 0 by an exponent not below 0 is told.", this::powersOfZero);
        book.says("A power of another base is told if the power's odd part is less than 2 to the power of 53 and the "
                + "power's shift from -1000 to 1000, and, with an exponent below 0, the odd part of the base is 1.",
                this::toldPowers);
    }

    private void exponentsOfBothSigns() {
        for (int base = -64; base <= 64; base++) {
            int each = base;
            trial.becomes("power(1, " + base + ", 0)", Trial::filled, 1, "1 1 0", mill -> mill.power(1, each, 0));
            trial.becomes("raise(0, 0, 1) of " + base, Trial.whole(base), 1, "1 1 0", mill -> mill.raise(0, 0, 1));
        }
        trial.becomes("raise(5, 0, 5) of 2 to the power of 53", Trial::filled, 5, "1 1 0", mill -> mill.raise(5, 0, 5));
        trial.becomes("raise(7, 0, 7) of a great one", Trial::filled, 7, "1 1 0", mill -> mill.raise(7, 0, 7));
        trial.becomes("raise(0, 1, 1) of -3", Trial.whole(-3), 1, "-1 3 0", mill -> mill.raise(0, 1, 1));
        trial.becomes("raise(0, 2, 1) of -3", Trial.whole(-3), 1, "1 9 0", mill -> mill.raise(0, 2, 1));
        trial.becomes("raise(0, 3, 1) of -6", Trial.whole(-6), 1, "-1 27 3", mill -> mill.raise(0, 3, 1));
        trial.becomes("raise(0, -1, 1) of 4", Trial.whole(4), 1, "1 1 -2", mill -> mill.raise(0, -1, 1));
        trial.becomes("raise(0, -1, 1) of -4", Trial.whole(-4), 1, "-1 1 -2", mill -> mill.raise(0, -1, 1));
        trial.becomes("raise(0, -2, 1) of -4", Trial.whole(-4), 1, "1 1 -4", mill -> mill.raise(0, -2, 1));
        trial.becomes("raise(0, -3, 1) of -4", Trial.whole(-4), 1, "-1 1 -6", mill -> mill.raise(0, -3, 1));
        trial.becomes("raise(0, -1, 1) of 1", Trial.whole(1), 1, "1 1 0", mill -> mill.raise(0, -1, 1));
        trial.becomes("raise(0, -63, 1) of -1", Trial.whole(-1), 1, "-1 1 0", mill -> mill.raise(0, -63, 1));
        trial.becomes("raise(0, -64, 1) of -1", Trial.whole(-1), 1, "1 1 0", mill -> mill.raise(0, -64, 1));
    }

    private void wholeBases() {
        for (int exponent : new int[] {-64, -1, 0, 1, 64}) {
            trial.passes("raise of 1 by " + exponent, Trial.two(0), mill -> mill.raise(0, exponent, 1));
            trial.refuses("raise of a half by " + exponent, Trial.two(-1), Trial.STATE,
                    mill -> mill.raise(0, exponent, 1));
            trial.refuses("raise of a quarter below 0 by " + exponent, () -> {
                Powermill mill = Trial.whole(-4).get();
                mill.raise(0, -1, 0);
                return mill;
            }, Trial.STATE, mill -> mill.raise(0, exponent, 1));
        }
    }

    private void powersOfZero() {
        for (int exponent = 0; exponent <= 64; exponent++) {
            int each = exponent;
            String due = exponent == 0 ? "1 1 0" : "0 0 0";
            trial.becomes("power(2, 0, " + exponent + ")", Trial::filled, 2, due, mill -> mill.power(2, 0, each));
            trial.becomes("raise(0, " + exponent + ", 2)", Trial::filled, 2, due, mill -> mill.raise(0, each, 2));
        }
        for (int exponent = -64; exponent < 0; exponent++) {
            int each = exponent;
            trial.refuses("raise(0, " + exponent + ", 2) of 0", Trial::filled, Trial.ARITHMETIC,
                    mill -> mill.raise(0, each, 2));
        }
    }

    private void toldPowers() {
        // The exponents by which the first base that has a shift comes to 1000, and the second to 1001.
        int[][] bounds = {{25, 40, 77, 13}, {40, 25, 91, 11}, {200, 5, 143, 7}, {500, 2, 501, 2}};
        for (int[] bound : bounds) {
            trial.becomes("raise to 1000", Trial.two(bound[0]), 1, "1 1 1000", mill -> mill.raise(0, bound[1], 1));
            trial.becomes("raise to -1000", Trial.two(bound[0]), 1, "1 1 -1000", mill -> mill.raise(0, -bound[1], 1));
            trial.refuses("raise beyond 1000", Trial.two(bound[2]), Trial.UNSUPPORTED,
                    mill -> mill.raise(0, bound[3], 1));
            trial.refuses("raise beyond -1000", Trial.two(bound[2]), Trial.UNSUPPORTED,
                    mill -> mill.raise(0, -bound[3], 1));
        }
        for (int odd = 3; odd <= 63; odd += 2) {
            int base = odd;
            trial.refuses("raise(0, -1, 1) of " + base, Trial.whole(base), Trial.UNSUPPORTED,
                    mill -> mill.raise(0, -1, 1));
            trial.refuses("raise(0, -64, 1) of -" + base, Trial.whole(-base), Trial.UNSUPPORTED,
                    mill -> mill.raise(0, -64, 1));
            for (int exponent = 1; exponent <= 64; exponent++) {
                toldOrNot(odd, exponent);
            }
        }
        trial.refuses("raise(0, -1, 1) of 6", Trial.whole(6), Trial.UNSUPPORTED, mill -> mill.raise(0, -1, 1));
        trial.refuses("raise(0, -1, 1) of 3 to 33", Trial.power(3, 33), Trial.UNSUPPORTED,
                mill -> mill.raise(0, -1, 1));
        trial.becomes("raise(0, 3, 1) of 3 to 11", Trial.power(3, 11), 1, "1 5559060566555523 0",
                mill -> mill.raise(0, 3, 1));
        trial.refuses("raise(0, 2, 1) of 3 to 17", Trial.power(3, 17), Trial.UNSUPPORTED,
                mill -> mill.raise(0, 2, 1));
        trial.refuses("raise(0, 64, 1) of 3 to 33", Trial.power(3, 33), Trial.UNSUPPORTED,
                mill -> mill.raise(0, 64, 1));
    }

    private void toldOrNot(int odd, int exponent) {
        for (int base = odd; base <= 64; base *= 2) {
            int below = -base;
            String what = " of -" + base + " by " + exponent;
            Trial.Call power = mill -> mill.power(1, below, exponent);
            Trial.Call raise = mill -> mill.raise(0, exponent, 1);
            if (Exact.isTold(odd, exponent)) {
                String due = (exponent % 2 == 0 ? "1 " : "-1 ") + Exact.power(odd, exponent) + " "
                        + exponent * Exact.shift(base);
                trial.becomes("power" + what, Trial::fresh, 1, due, power);
                trial.becomes("raise" + what, Trial.whole(below), 1, due, raise);
            } else {
                trial.refuses("power" + what, Trial::fresh, Trial.UNSUPPORTED, power);
                trial.refuses("raise" + what, Trial.whole(below), Trial.UNSUPPORTED, raise);
            }
        }
    }

    // ---- Digits

    private void digits() {
        book.says("Digits. A number near, its sign left away, has digits to a base, the last one at the place 0; 0 has "
                + "the one digit 0.", this::digitsOfNearOnes);
    }

    private void digitsOfNearOnes() {
        trial.asks("the digits of 51 to 2", Trial.whole(51), 6, mill -> mill.digits(2, 0));
        int[] last = {1, 1, 0, 0, 1, 1, 0};
        for (int place = 0; place < last.length; place++) {
            int at = place;
            trial.asks("digit " + place + " of 51", Trial.whole(51), last[place], mill -> mill.digit(2, 0, at));
            trial.asks("digit " + place + " of -51", Trial.whole(-51), last[place], mill -> mill.digit(2, 0, at));
        }
        for (int base : new int[] {2, 3, 63, 64}) {
            trial.asks("the digits of 0 to " + base, Trial::fresh, 1, mill -> mill.digits(base, 0));
            trial.asks("the last digit of 0 to " + base, Trial::fresh, 0, mill -> mill.digit(base, 0, 0));
            trial.asks("the digit ahead of it", Trial::fresh, 0, mill -> mill.digit(base, 0, 1));
            trial.asks("the digits of 1 to " + base, Trial.whole(1), 1, mill -> mill.digits(base, 0));
            trial.asks("the digits of -1 to " + base, Trial.whole(-1), 1, mill -> mill.digits(base, 0));
            trial.asks("the last digit of -1 to " + base, Trial.whole(-1), 1, mill -> mill.digit(base, 0, 0));
        }
    }

    // ---- Keeping

    private void keeping() {
        book.says("Keeping. Each call that lets a slot become a number keeps which one it was and what it held, also "
                + "if it becomes the same, at most eight times, the oldest one being forgotten.", this::changesKept);
    }

    private void changesKept() {
        for (int changes = 0; changes <= 8; changes++) {
            check.due("undone after " + changes + " changes", undone(changes), changes);
        }
        for (int changes : new int[] {9, 10, 15, 16, 17, 24, 25, 63, 64, 65, 100, 255, 256, 257, 450}) {
            check.due("undone after " + changes + " changes", undone(changes), 8);
        }
        theSameIsKept();
        Powermill mill = new Powermill();
        for (int whole = 1; whole <= 9; whole++) {
            mill.put(whole - 1 & 7, whole);
        }
        for (int back = 0; back < 8; back++) {
            mill.undo();
        }
        check.due("the oldest change, that is forgotten", mill.whole(0), 1);
        check.due("the second oldest, that is not", mill.whole(1), 0);
    }

    /** How many changes can be undone; each has to bring back what its slot held. */
    private int undone(int changes) {
        Powermill mill = new Powermill();
        for (int change = 1; change <= changes; change++) {
            mill.put(change % 3, change % 60 + 1);
        }
        int count = 0;
        String outcome = Check.outcome(mill::undo);
        while (count < 20 && outcome.startsWith("answers ")) {
            int change = changes - count;
            check.due("undo() of change " + change, outcome, "answers " + change % 3);
            check.due("the slot after that", mill.whole(change % 3), change > 3 ? (change - 3) % 60 + 1 : 0);
            outcome = Check.outcome(mill::undo);
            count++;
        }
        check.due("undo() of what is not kept", outcome, "throws NoSuchElementException");
        check.due("kept() then", mill.kept(), 0);
        return count;
    }

    private void theSameIsKept() {
        trial.becomes("put of the same", Trial.whole(5), 0, "1 5 0", mill -> mill.put(0, 5));
        trial.becomes("put of 0 over 0", Trial::fresh, 7, "0 0 0", mill -> mill.put(7, 0));
        trial.becomes("power of the same", Trial.whole(5), 0, "1 5 0", mill -> mill.power(0, 5, 1));
        trial.becomes("twoTo of the same", Trial.two(-9), 0, "1 1 -9", mill -> mill.twoTo(0, -9));
        trial.becomes("raise of the same", Trial.whole(-5), 0, "-1 5 0", mill -> mill.raise(0, 1, 0));
        trial.becomes("copy of the same", Trial.two(-9), 0, "1 1 -9", mill -> mill.copy(0, 0));
        Powermill mill = Trial.filled();
        mill.undo();
        mill.undo();
        check.due("kept() after two undone of eight", mill.kept(), 6);
        mill.put(4, 1);
        mill.put(4, 1);
        check.due("kept() after two changes more", mill.kept(), 8);
        mill.put(4, 1);
        check.due("kept() after a third one", mill.kept(), 8);
    }
}
