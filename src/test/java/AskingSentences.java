import java.util.function.Supplier;

/** Promises 9 to 21, sentence by sentence. */
final class AskingSentences {
    /** The slots of the filled object, the one with the least number first. */
    private static final int[] RISING = {7, 2, 0, 6, 3, 1, 4, 5};
    private static final long THREE_TO_33 = 5559060566555523L;
    private static final long SIX_TO_20 = 3656158440062976L;

    private final Book book;
    private final Check check;
    private final Trial trial;

    AskingSentences(Book book) {
        this.book = book;
        this.check = book.check;
        this.trial = book.trial;
    }

    void tell() {
        promises9To11();
        promise12();
        promise13();
        promise14();
        promise15();
        promise16();
        promise17();
        promise18();
        promise19();
        promise20();
        promise21();
    }

    /** What the call answers for each slot of the filled object. */
    private void eachSlot(String what, long[] due, Trial.CallOf call) {
        for (int slot = 0; slot < 8; slot++) {
            int at = slot;
            trial.asks(what + "(" + slot + ")", Trial::filled, due[slot], mill -> call.answer(mill, at));
        }
    }

    private void noSuchSlot(String what, Trial.CallOf call) {
        book.says("Throws IndexOutOfBoundsException if there is no such slot", () -> trial.slotBounds(what, call));
    }

    // ---- what a number is

    private void promises9To11() {
        book.section("Promise 9: sign");
        book.says("Returns the sign of a number.",
                () -> eachSlot("sign", new long[] {0, 1, -1, 1, 1, 1, 1, -1}, (mill, slot) -> mill.sign(slot)));
        book.says("Returns 1, 0 or -1.", () -> {
            for (int whole = -64; whole <= 64; whole++) {
                check.due("the sign of " + whole, Trial.whole(whole).get().sign(0), Integer.signum(whole));
            }
            check.due("the sign of 2 to the power of 1000", Trial.two(1000).get().sign(0), 1);
            check.due("the sign of 2 to the power of -1000", Trial.two(-1000).get().sign(0), 1);
        });
        noSuchSlot("sign", (mill, slot) -> mill.sign(slot));
        book.section("Promise 10: odd");
        long[] odds = {0, 3, 5, 1, 1, 1, 1, THREE_TO_33};
        book.says("Returns the odd part of a number.", () -> eachSlot("odd", odds, (mill, slot) -> mill.odd(slot)));
        book.says("Returns the odd part.", () -> {
            int[][] due = {{-64, 1}, {-63, 63}, {-62, 31}, {-1, 1}, {0, 0}, {1, 1}, {2, 1}, {48, 3}, {60, 15}, {63, 63},
                {64, 1}};
            for (int[] each : due) {
                check.due("the odd part of " + each[0], Trial.whole(each[0]).get().odd(0), each[1]);
            }
        });
        noSuchSlot("odd", (mill, slot) -> mill.odd(slot));
        book.section("Promise 11: shift");
        long[] shifts = {0, 2, 0, -2, 52, 53, -1000, 33};
        book.says("Returns the shift of a number.",
                () -> eachSlot("shift", shifts, (mill, slot) -> mill.shift(slot)));
        book.says("Returns the shift.", () -> {
            for (int exponent : new int[] {-1000, -1, 0, 1, 1000}) {
                check.due("the shift of 2 to the power of " + exponent, Trial.two(exponent).get().shift(0), exponent);
            }
            check.due("the shift of 0", Trial.fresh().shift(0), 0);
            check.due("the shift of -63", Trial.whole(-63).get().shift(0), 0);
        });
        noSuchSlot("shift", (mill, slot) -> mill.shift(slot));
    }

    private void promise12() {
        book.section("Promise 12: bits");
        double[] numbers = {0, 12, -5, 0.25, 0x1p52, 0x1p53, 0x1p-1000, -0x1p33 * THREE_TO_33};
        long[] due = new long[8];
        for (int slot = 0; slot < 8; slot++) {
            due[slot] = Double.doubleToLongBits(numbers[slot]);
        }
        book.says("Returns the bits of a number.", () -> eachSlot("bits", due, (mill, slot) -> mill.bits(slot)));
        book.says("Returns the bits.", () -> {
            check.due("the bits of 0", Trial.fresh().bits(0), 0);
            check.due("the bits of 1", Trial.whole(1).get().bits(0), 0x3ff0000000000000L);
            check.due("the bits of -1", Trial.whole(-1).get().bits(0), 0xbff0000000000000L);
            check.due("the bits of 2 to the power of 1000", Trial.two(1000).get().bits(0), 0x7e70000000000000L);
            check.due("the bits of 2 to the power of -1000", Trial.two(-1000).get().bits(0), 0x0170000000000000L);
        });
        noSuchSlot("bits", (mill, slot) -> mill.bits(slot));
    }

    private void promise13() {
        book.section("Promise 13: isWhole");
        book.says("Returns whether a number is whole.", () -> eachSlot("isWhole", new long[] {1, 1, 1, 0, 1, 1, 0, 1},
                (mill, slot) -> mill.isWhole(slot) ? 1 : 0));
        book.says("Returns whether it is.", () -> {
            for (int exponent = -1000; exponent <= 1000; exponent++) {
                check.due("isWhole of 2 to the power of " + exponent, Trial.two(exponent).get().isWhole(0),
                        exponent >= 0);
            }
        });
        noSuchSlot("isWhole", (mill, slot) -> mill.isWhole(slot) ? 1 : 0);
    }

    private void promise14() {
        book.section("Promise 14: whole");
        book.says("Returns a number that is near.", () -> {
            for (int whole = -64; whole <= 64; whole++) {
                trial.asks("whole of " + whole, Trial.whole(whole), whole, mill -> mill.whole(0));
            }
            trial.asks("whole of 3 to the power of 33", Trial.power(3, 33), THREE_TO_33, mill -> mill.whole(0));
        });
        book.says("Returns the number.", () -> {
            trial.asks("whole of 0", Trial::fresh, 0, mill -> mill.whole(0));
            trial.asks("whole of 2 to the power of 52", Trial.two(52), 1L << 52, mill -> mill.whole(0));
            trial.asks("whole of -3 to the power of 33", Trial.power(-3, 33), -THREE_TO_33, mill -> mill.whole(0));
            trial.asks("whole of -6 to the power of 20", Trial.power(-6, 20), SIX_TO_20, mill -> mill.whole(0));
            trial.asks("whole of 59 to the power of 9", Trial.power(59, 9), 8662995818654939L, mill -> mill.whole(0));
        });
        noSuchSlot("whole", (mill, slot) -> mill.whole(slot));
        book.says("Throws IllegalStateException if its number is not near",
                () -> notNear("whole", mill -> mill.whole(0)));
    }

    /** The call is refused for every number in slot 0 that is not near, and the last near ones pass. */
    private void notNear(String what, Trial.Call call) {
        trial.passes(what + " of 1", Trial.two(0), call);
        trial.passes(what + " of 2 to the power of 52", Trial.two(52), call);
        trial.passes(what + " of 6 to the power of 20", Trial.power(6, 20), call);
        trial.passes(what + " of 10 to the power of 15", Trial.power(10, 15), call);
        trial.passes(what + " of 59 to the power of 9", Trial.power(59, 9), call);
        for (int exponent : new int[] {-1000, -52, -2, -1, 53, 54, 62, 63, 64, 65, 128, 999, 1000}) {
            trial.refuses(what + " of 2 to the power of " + exponent, Trial.two(exponent), Trial.STATE, call);
        }
        trial.refuses(what + " of 6 to the power of 21", Trial.power(6, 21), Trial.STATE, call);
        trial.refuses(what + " of -6 to the power of 21", Trial.power(-6, 21), Trial.STATE, call);
        trial.refuses(what + " of 10 to the power of 16", Trial.power(10, 16), Trial.STATE, call);
        trial.refuses(what + " of 62 to the power of 9", Trial.power(62, 9), Trial.STATE, call);
        trial.refuses(what + " of 48 to the power of 33", Trial.power(48, 33), Trial.STATE, call);
        trial.refuses(what + " of -8 to the power of 19", Trial.power(-8, 19), Trial.STATE, call);
        trial.refuses(what + " of a quarter below 0", () -> {
            Powermill mill = Trial.whole(-4).get();
            mill.raise(0, -1, 0);
            return mill;
        }, Trial.STATE, call);
    }

    // ---- order

    private void promise15() {
        book.section("Promise 15: compare");
        book.says("Compares two numbers.", () -> {
            for (int one = -64; one <= 64; one++) {
                for (int other = -64; other <= 64; other++) {
                    Powermill mill = Trial.holding(one, other).get();
                    check.due("compare " + one + " and " + other, mill.compare(0, 1), Integer.compare(one, other));
                }
            }
        });
        book.says("Returns -1 if the first one is less, 1 if it is greater, 0 if they are the same.", this::comparing);
        book.says("Throws IndexOutOfBoundsException if there is no such slot, for either", () -> {
            trial.slotBounds("compare, the first one", (mill, slot) -> mill.compare(slot, 1));
            trial.slotBounds("compare, the second one", (mill, slot) -> mill.compare(1, slot));
        });
    }

    private void comparing() {
        for (int one = 0; one < 8; one++) {
            for (int other = 0; other < 8; other++) {
                int first = RISING[one];
                int second = RISING[other];
                trial.asks("compare(" + first + ", " + second + ")", Trial::filled, Integer.compare(one, other),
                        mill -> mill.compare(first, second));
            }
        }
        compares("2 to the power of -1000", Trial.two(-1000).get(), mill -> mill.put(1, 0), 1);
        compares("2 to the power of -1000", Trial.two(-1000).get(), mill -> mill.twoTo(1, -999), -1);
        compares("2 to the power of 1000", Trial.two(1000).get(), mill -> mill.twoTo(1, 999), 1);
        compares("2 to the power of 1000", Trial.two(1000).get(), mill -> mill.twoTo(1, 1000), 0);
        compares("2 to the power of 52", Trial.two(52).get(), mill -> mill.power(1, 3, 33), -1);
        compares("2 to the power of 53", Trial.two(53).get(), mill -> mill.power(1, 3, 33), 1);
        compares("-2 to the power of 63", Trial.power(-2, 63).get(), mill -> mill.power(1, -2, 61), -1);
        compares("-2 to the power of 63", Trial.power(-2, 63).get(), mill -> mill.power(1, -6, 33), 1);
        compares("59 to the power of 9", Trial.power(59, 9).get(), mill -> mill.power(1, -59, 9), 1);
        compares("59 to the power of 9", Trial.power(59, 9).get(), mill -> mill.power(1, 59, 9), 0);
        compares("8 to the power of 11", Trial.power(8, 11).get(), mill -> mill.power(1, 2, 33), 0);
    }

    private void compares(String what, Powermill mill, Trial.Call other, int due) {
        other.answer(mill);
        check.due("compare(0, 1) of " + what, mill.compare(0, 1), due);
        check.due("compare(1, 0) of " + what, mill.compare(1, 0), -due);
    }

    private void promise16() {
        book.section("Promise 16: rank");
        book.says("Returns how many slots hold a number that is less than that of a slot.",
                () -> eachSlot("rank", new long[] {2, 5, 1, 4, 6, 7, 3, 0}, (mill, slot) -> mill.rank(slot)));
        book.says("Returns how many.", () -> {
            for (int slot = 0; slot < 8; slot++) {
                int at = slot;
                trial.asks("rank of same ones", Trial::fresh, 0, mill -> mill.rank(at));
                int due = slot == 3 ? 0 : slot == 6 ? 7 : 1;
                trial.asks("rank(" + slot + ") between -1 and 1", Trial.holding(0, 0, 0, -1, 0, 0, 1, 0), due,
                        mill -> mill.rank(at));
            }
        });
        noSuchSlot("rank", (mill, slot) -> mill.rank(slot));
    }

    private void promise17() {
        book.section("Promise 17: at");
        book.says("Returns the slot at a place, the slots being put in the order of their numbers, the least one "
                + "first, of same ones the lesser slot first.", () -> {
                    order(Trial::filled, RISING);
                    order(Trial::fresh, 0, 1, 2, 3, 4, 5, 6, 7);
                    order(Trial.holding(0, 8, 0, 0, -3, 0, -3, 0), 4, 6, 0, 2, 3, 5, 7, 1);
                    order(Trial.holding(7, 6, 5, 4, 3, 2, 1, 0), 7, 6, 5, 4, 3, 2, 1, 0);
                    order(Trial.holding(-1, -2, -3, -4, -5, -6, -7, -8), 7, 6, 5, 4, 3, 2, 1, 0);
                    order(Trial.holding(1, -1, 1, -1, 1, -1, 1, -1), 1, 3, 5, 7, 0, 2, 4, 6);
                });
        book.says("Returns the slot.", () -> {
            trial.asks("at(0), the least one", Trial.holding(3, 2, 1, 2, 3, 4, 5, 6), 2, mill -> mill.at(0));
            trial.asks("at(7), the greatest one", Trial.holding(3, 2, 1, 2, 3, 4, 5, 6), 7, mill -> mill.at(7));
        });
        book.says("Throws IndexOutOfBoundsException if there is no such place, from 0 to 7",
                () -> trial.slotBounds("at", (mill, place) -> mill.at(place)));
    }

    private void order(Supplier<Powermill> made, int... due) {
        for (int place = 0; place < 8; place++) {
            int at = place;
            trial.asks("at(" + place + ")", made, due[place], mill -> mill.at(at));
        }
    }

    // ---- digits and roots

    private void digitBase(String what, Trial.CallOf call) {
        for (int whole : new int[] {1, 64}) {
            trial.bounds(what + " of " + whole + ", the base", 2, 64, Trial.ARGUMENT, Trial.whole(whole), call);
            trial.edges(what + " of " + whole + ", the base", new int[] {3, 63}, new int[] {0, -1, -2, -64},
                    Trial.ARGUMENT, Trial.whole(whole), call);
        }
    }

    /** How often a size, at least 1, can be divided by the base. */
    private static int logarithm(int base, int size) {
        int exponent = 0;
        for (int power = base; power <= size; power *= base) {
            exponent++;
        }
        return exponent;
    }

    private void promise18() {
        book.section("Promise 18: log");
        book.says("Returns the greatest exponent by which the power of a base is not above a number.", () -> {
            for (int base = 2; base <= 64; base++) {
                for (int whole = 1; whole <= 64; whole++) {
                    int each = base;
                    trial.asks("log(" + base + ") of " + whole, Trial.whole(whole), logarithm(base, whole),
                            mill -> mill.log(each, 0));
                }
            }
        });
        book.says("Returns the exponent.", () -> {
            trial.asks("log(2) of 1", Trial.whole(1), 0, mill -> mill.log(2, 0));
            trial.asks("log(64) of 1", Trial.whole(1), 0, mill -> mill.log(64, 0));
            trial.asks("log(64) of 63", Trial.whole(63), 0, mill -> mill.log(64, 0));
            trial.asks("log(64) of 64", Trial.whole(64), 1, mill -> mill.log(64, 0));
            trial.asks("log(2) of 2 to the power of 52", Trial.two(52), 52, mill -> mill.log(2, 0));
            trial.asks("log(64) of 2 to the power of 52", Trial.two(52), 8, mill -> mill.log(64, 0));
            trial.asks("log(2) of 59 to the power of 9", Trial.power(59, 9), 52, mill -> mill.log(2, 0));
            trial.asks("log(59) of 59 to the power of 9", Trial.power(59, 9), 9, mill -> mill.log(59, 0));
            trial.asks("log(60) of 59 to the power of 9", Trial.power(59, 9), 8, mill -> mill.log(60, 0));
            trial.asks("log(3) of 3 to the power of 33", Trial.power(3, 33), 33, mill -> mill.log(3, 0));
        });
        noSuchSlot("log", (mill, slot) -> mill.log(2, slot));
        book.says("Throws IllegalArgumentException if the base is not from 2 to 64",
                () -> digitBase("log", (mill, base) -> mill.log(base, 0)));
        book.says("Throws IllegalStateException if its number is not near",
                () -> notNear("log", mill -> mill.log(2, 0)));
        book.says("Throws ArithmeticException if the number is less than 1", () -> {
            for (int base : new int[] {2, 64}) {
                trial.passes("log of 1", Trial.whole(1), mill -> mill.log(base, 0));
                for (int whole : new int[] {0, -1, -2, -64}) {
                    trial.refuses("log of " + whole, Trial.whole(whole), Trial.ARITHMETIC, mill -> mill.log(base, 0));
                }
                trial.refuses("log of -3 to the power of 33", Trial.power(-3, 33), Trial.ARITHMETIC,
                        mill -> mill.log(base, 0));
            }
        });
    }

    private void promise19() {
        book.section("Promise 19: digits");
        book.says("Returns how many digits a number has to a base.", () -> {
            for (int base = 2; base <= 64; base++) {
                for (int size = 1; size <= 64; size++) {
                    int each = base;
                    int due = logarithm(base, size) + 1;
                    trial.asks("digits(" + base + ") of " + size, Trial.whole(size), due, mill -> mill.digits(each, 0));
                    trial.asks("digits(" + base + ") of -" + size, Trial.whole(-size), due,
                            mill -> mill.digits(each, 0));
                }
            }
        });
        book.says("Returns how many.", () -> {
            trial.asks("digits(2) of 0", Trial::fresh, 1, mill -> mill.digits(2, 0));
            trial.asks("digits(64) of 0", Trial::fresh, 1, mill -> mill.digits(64, 0));
            trial.asks("digits(64) of 63", Trial.whole(63), 1, mill -> mill.digits(64, 0));
            trial.asks("digits(64) of 64", Trial.whole(64), 2, mill -> mill.digits(64, 0));
            trial.asks("digits(2) of 2 to the power of 52", Trial.two(52), 53, mill -> mill.digits(2, 0));
            trial.asks("digits(64) of 2 to the power of 52", Trial.two(52), 9, mill -> mill.digits(64, 0));
            trial.asks("digits(3) of -3 to the power of 33", Trial.power(-3, 33), 34, mill -> mill.digits(3, 0));
            trial.asks("digits(60) of 59 to the power of 9", Trial.power(59, 9), 9, mill -> mill.digits(60, 0));
        });
        noSuchSlot("digits", (mill, slot) -> mill.digits(2, slot));
        book.says("Throws IllegalArgumentException if the base is not from 2 to 64",
                () -> digitBase("digits", (mill, base) -> mill.digits(base, 0)));
        book.says("Throws IllegalStateException if its number is not near",
                () -> notNear("digits", mill -> mill.digits(2, 0)));
    }

    private void promise20() {
        book.section("Promise 20: digit");
        book.says("Returns a digit of a number to a base.", () -> {
            for (int base = 2; base <= 64; base++) {
                for (int size = 0; size <= 64; size++) {
                    int each = base;
                    int last = size % base;
                    int next = size / base % base;
                    trial.asks("the last digit of " + size, Trial.whole(size), last, mill -> mill.digit(each, 0, 0));
                    trial.asks("the last digit of -" + size, Trial.whole(-size), last, mill -> mill.digit(each, 0, 0));
                    trial.asks("the one ahead of it", Trial.whole(-size), next, mill -> mill.digit(each, 0, 1));
                }
            }
        });
        book.says("Returns the digit, 0 ahead of the first one.", this::digitsAheadOfTheFirst);
        noSuchSlot("digit", (mill, slot) -> mill.digit(2, slot, 0));
        book.says("Throws IllegalArgumentException if the base is not from 2 to 64, or the place below 0", () -> {
            digitBase("digit", (mill, base) -> mill.digit(base, 0, 0));
            for (int whole : new int[] {0, 1, -64}) {
                trial.edges("digit of " + whole + ", the place", new int[] {0, 1, 52, 53, Integer.MAX_VALUE},
                        new int[] {-1, -2, Integer.MIN_VALUE}, Trial.ARGUMENT, Trial.whole(whole),
                        (mill, place) -> mill.digit(2, 0, place));
            }
        });
        book.says("Throws IllegalStateException if its number is not near", () -> {
            notNear("digit", mill -> mill.digit(2, 0, 0));
            notNear("digit ahead of the first one", mill -> mill.digit(64, 0, Integer.MAX_VALUE));
        });
    }

    private void digitsAheadOfTheFirst() {
        String first = "the first digit of ";
        trial.asks(first + "12 to 2", Trial.whole(12), 1, mill -> mill.digit(2, 0, 3));
        trial.asks(first + "-63 to 64", Trial.whole(-63), 63, mill -> mill.digit(64, 0, 0));
        trial.asks(first + "2 to the power of 52, to 2", Trial.two(52), 1, mill -> mill.digit(2, 0, 52));
        trial.asks(first + "2 to the power of 52, to 64", Trial.two(52), 16, mill -> mill.digit(64, 0, 8));
        trial.asks(first + "-3 to the power of 33, to 3", Trial.power(-3, 33), 1, mill -> mill.digit(3, 0, 33));
        for (int place : new int[] {4, 5, 31, 32, 33, 52, 53, 63, 64, 1000, Integer.MAX_VALUE - 1, Integer.MAX_VALUE}) {
            trial.asks("digit " + place + " of 12 to 2", Trial.whole(12), 0, mill -> mill.digit(2, 0, place));
            trial.asks("digit " + place + " of 0 to 2", Trial::fresh, 0, mill -> mill.digit(2, 0, place));
        }
        for (int place : new int[] {53, 54, 63, 64, 65, 116, 117, Integer.MAX_VALUE}) {
            trial.asks("digit " + place + " of 2 to the power of 52", Trial.two(52), 0,
                    mill -> mill.digit(2, 0, place));
            trial.asks("digit " + place + " of 3 to the power of 33", Trial.power(3, 33), 0,
                    mill -> mill.digit(3, 0, place));
        }
        trial.asks("digit 34 of 3 to the power of 33", Trial.power(3, 33), 0, mill -> mill.digit(3, 0, 34));
        trial.asks("digit 9 of 2 to the power of 52, to 64", Trial.two(52), 0, mill -> mill.digit(64, 0, 9));
    }

    private void promise21() {
        book.section("Promise 21: root");
        book.says("Returns the greatest whole number, at most 64, whose power by a degree is not above a number.",
                this::rootsOfSmallOnes);
        book.says("Returns the whole number.", this::roots);
        noSuchSlot("root", (mill, slot) -> mill.root(2, slot));
        book.says("Throws IllegalArgumentException if the degree is not from 1 to 53", () -> {
            for (int whole : new int[] {0, 1, 64}) {
                trial.bounds("root of " + whole + ", the degree", 1, 53, Trial.ARGUMENT, Trial.whole(whole),
                        (mill, degree) -> mill.root(degree, 0));
            }
        });
        book.says("Throws IllegalStateException if its number is not near", () -> {
            notNear("root", mill -> mill.root(1, 0));
            notNear("root by 53", mill -> mill.root(53, 0));
        });
        book.says("Throws ArithmeticException if the number is below 0", () -> {
            for (int degree : new int[] {1, 2, 3, 53}) {
                trial.passes("root of 0", Trial::fresh, mill -> mill.root(degree, 0));
                trial.refuses("root of -1", Trial.whole(-1), Trial.ARITHMETIC, mill -> mill.root(degree, 0));
                trial.refuses("root of -64", Trial.whole(-64), Trial.ARITHMETIC, mill -> mill.root(degree, 0));
                trial.refuses("root of -3 to the power of 33", Trial.power(-3, 33), Trial.ARITHMETIC,
                        mill -> mill.root(degree, 0));
            }
        });
    }

    private void rootsOfSmallOnes() {
        for (int whole = 0; whole <= 64; whole++) {
            for (int degree = 1; degree <= 53; degree++) {
                int each = degree;
                int due = 0;
                while (StrictMath.pow(due + 1, degree) <= whole) {
                    due++;
                }
                trial.asks("root(" + degree + ") of " + whole, Trial.whole(whole), due, mill -> mill.root(each, 0));
            }
        }
    }

    private void roots() {
        for (int size = 2; size <= 64; size++) {
            for (int degree = 1; StrictMath.pow(size, degree) < 0x1p53; degree++) {
                int each = degree;
                trial.asks("root(" + degree + ") of " + size + " to that power", Trial.power(size, degree), size,
                        mill -> mill.root(each, 0));
            }
        }
        trial.asks("root(1) of 64 times 64", Trial.power(64, 2), 64, mill -> mill.root(1, 0));
        trial.asks("root(2) of 64 times 64, times 64", Trial.power(64, 3), 64, mill -> mill.root(2, 0));
        trial.asks("root(1) of 5 to the power of 3", Trial.power(5, 3), 64, mill -> mill.root(1, 0));
        trial.asks("root(1) of 2 to the power of 52", Trial.two(52), 64, mill -> mill.root(1, 0));
        trial.asks("root(8) of 2 to the power of 52", Trial.two(52), 64, mill -> mill.root(8, 0));
        trial.asks("root(9) of 2 to the power of 52", Trial.two(52), 54, mill -> mill.root(9, 0));
        trial.asks("root(52) of 2 to the power of 52", Trial.two(52), 2, mill -> mill.root(52, 0));
        trial.asks("root(53) of 2 to the power of 52", Trial.two(52), 1, mill -> mill.root(53, 0));
        trial.asks("root(53) of 0", Trial::fresh, 0, mill -> mill.root(53, 0));
        trial.asks("root(1) of 0", Trial::fresh, 0, mill -> mill.root(1, 0));
    }
}
