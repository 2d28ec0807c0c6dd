import java.math.BigInteger;

/** Promises 22 to 27, sentence by sentence. */
final class PowersSentences {
    /** Bases with the last exponent by which their power is near. */
    private static final int[][] LAST_NEAR = {{2, 52}, {3, 33}, {4, 26}, {5, 22}, {6, 20}, {7, 18}, {8, 17}, {10, 15},
        {16, 13}, {32, 10}, {59, 9}, {60, 8}, {62, 8}, {63, 8}, {64, 8}};
    /** Bases with the last exponent by which their power is told. */
    private static final int[][] LAST_TOLD = {{3, 33}, {5, 22}, {6, 33}, {7, 18}, {10, 22}, {17, 12}, {48, 33}, {59, 9},
        {60, 13}, {61, 8}, {63, 8}};

    private final Book book;
    private final Check check;
    private final Trial trial;

    PowersSentences(Book book) {
        this.book = book;
        this.check = book.check;
        this.trial = book.trial;
    }

    void tell() {
        promise22();
        promise23();
        promise24();
        promise25();
        promise26();
        promise27();
    }

    private void baseAndExponentBounds(String what, Trial.CallOf ofBase, Trial.CallOf ofExponent) {
        trial.bounds(what + ", the base", -64, 64, Trial.ARGUMENT, Trial::filled, ofBase);
        trial.bounds(what + ", the exponent", 0, 64, Trial.ARGUMENT, Trial::filled, ofExponent);
    }

    /** The call passes up to the last exponent by which the power is told, or near, and is refused from there on. */
    private void lastExponents(String what, int[][] lasts, CallOfPower call) {
        for (int[] last : lasts) {
            for (int base : new int[] {last[0], -last[0]}) {
                trial.edges(what + " of " + base, new int[] {1, last[1] - 1, last[1]},
                        new int[] {last[1] + 1, last[1] + 2, 63, 64}, Trial.UNSUPPORTED, Trial::filled,
                        (mill, exponent) -> call.answer(mill, base, exponent));
            }
        }
        for (int base : new int[] {-1, 0, 1}) {
            trial.edges(what + " of " + base, new int[] {1, 63, 64}, new int[] {}, Trial.UNSUPPORTED, Trial::filled,
                    (mill, exponent) -> call.answer(mill, base, exponent));
        }
    }

    private interface CallOfPower {
        long answer(Powermill mill, int base, int exponent);
    }

    // ---- sums and rests

    private void promise22() {
        book.section("Promise 22: sum");
        book.says("Returns the sum of the first powers of a base, by the exponents 0, 1 and so on.", () -> {
            for (int base = -64; base <= 64; base++) {
                long sum = 0;
                for (int many = 0; many <= 64 && Exact.isNear(base, many); many++) {
                    int each = base;
                    int so = many;
                    trial.asks("sum(" + base + ", " + many + ")", Trial::filled, sum, mill -> mill.sum(each, so));
                    sum += Exact.power(base, many).longValueExact();
                }
            }
        });
        book.says("Returns the sum.", () -> {
            check.due("sum(3, 5)", Trial.fresh().sum(3, 5), 121);
            check.due("sum(-2, 3)", Trial.fresh().sum(-2, 3), 3);
            check.due("sum(2, 52)", Trial.fresh().sum(2, 52), (1L << 52) - 1);
            check.due("sum(-2, 52)", Trial.fresh().sum(-2, 52), -1501199875790165L);
            check.due("sum(64, 8)", Trial.fresh().sum(64, 8), 4467856773185L);
            check.due("sum(64, 0), of none", Trial.fresh().sum(64, 0), 0);
            check.due("sum(0, 0), of none", Trial.fresh().sum(0, 0), 0);
            check.due("sum(0, 1), 0 to the power of 0", Trial.fresh().sum(0, 1), 1);
            check.due("sum(0, 64)", Trial.fresh().sum(0, 64), 1);
            check.due("sum(1, 64)", Trial.fresh().sum(1, 64), 64);
            check.due("sum(-1, 63)", Trial.fresh().sum(-1, 63), 1);
            check.due("sum(-1, 64)", Trial.fresh().sum(-1, 64), 0);
        });
        book.says("Throws IllegalArgumentException if the base is not from -64 to 64, or many not from 0 to 64", () -> {
            baseAndExponentBounds("sum", (mill, base) -> mill.sum(base, 1), (mill, many) -> mill.sum(1, many));
            baseAndExponentBounds("sum", (mill, base) -> mill.sum(base, 0), (mill, many) -> mill.sum(0, many));
        });
        book.says("Throws UnsupportedOperationException if the power of the base by many is not near",
                () -> lastExponents("sum", LAST_NEAR, (mill, base, many) -> mill.sum(base, many)));
    }

    private void promise23() {
        book.section("Promise 23: rest");
        book.says("Returns the rest of a power, divided by a whole number.", () -> {
            check.due("rest(7, 5, 10)", Trial.fresh().rest(7, 5, 10), 7);
            check.due("rest(2, 52, 1000)", Trial.fresh().rest(2, 52, 1000), 496);
            check.due("rest(3, 33, 1000)", Trial.fresh().rest(3, 33, 1000), 523);
            check.due("rest(0, 0, 2)", Trial.fresh().rest(0, 0, 2), 1);
            check.due("rest(0, 1, 2)", Trial.fresh().rest(0, 1, 2), 0);
            check.due("rest(-64, 0, 1000)", Trial.fresh().rest(-64, 0, 1000), 1);
        });
        book.says("Returns the rest, from 0 to the divisor less 1.", () -> {
            check.due("rest(7, 1, 7)", Trial.fresh().rest(7, 1, 7), 0);
            check.due("rest(-7, 1, 7)", Trial.fresh().rest(-7, 1, 7), 0);
            check.due("rest(-8, 1, 7)", Trial.fresh().rest(-8, 1, 7), 6);
            check.due("rest(-6, 1, 7)", Trial.fresh().rest(-6, 1, 7), 1);
            check.due("rest(6, 1, 7)", Trial.fresh().rest(6, 1, 7), 6);
            check.due("rest(-1, 63, 1000)", Trial.fresh().rest(-1, 63, 1000), 999);
            check.due("rest(-3, 33, 1000)", Trial.fresh().rest(-3, 33, 1000), 477);
            for (int base = -64; base <= 64; base++) {
                int each = base;
                trial.asks("rest(" + base + ", 5, 1)", Trial::filled, 0, mill -> mill.rest(each, 5, 1));
                int due = base < 0 ? 1000 + base : base;
                trial.asks("rest(" + base + ", 1, 1000)", Trial::filled, due, mill -> mill.rest(each, 1, 1000));
            }
        });
        book.says("Throws IllegalArgumentException if the base is not from -64 to 64, the exponent not from 0 to 64, "
                + "or the divisor not from 1 to 1000", () -> {
                    baseAndExponentBounds("rest", (mill, base) -> mill.rest(base, 1, 7),
                            (mill, exponent) -> mill.rest(1, exponent, 7));
                    for (int base : new int[] {-3, 0, 3}) {
                        trial.bounds("rest, the divisor", 1, 1000, Trial.ARGUMENT, Trial::filled,
                                (mill, by) -> mill.rest(base, 5, by));
                    }
                });
        book.says("Throws UnsupportedOperationException if the power is not near",
                () -> lastExponents("rest", LAST_NEAR, (mill, base, exponent) -> mill.rest(base, exponent, 7)));
    }

    private void promise24() {
        book.section("Promise 24: isFermat");
        book.says("Returns whether the power of a base by a number, less the base, is a multiple of that number.",
                this::multiples);
        book.says("Returns whether it is; it is wherever the number is a prime.", () -> {
            for (int prime : new int[] {2, 3, 5, 7, 11, 13, 17, 19, 23, 29, 31, 37, 41, 43, 47}) {
                check.due("isFermat(2, " + prime + ")", Trial.fresh().isFermat(2, prime), true);
                check.due("isFermat(-2, " + prime + ")", Trial.fresh().isFermat(-2, prime), true);
            }
            for (int base : new int[] {-1, 0, 1}) {
                check.due("isFermat(" + base + ", 61)", Trial.fresh().isFermat(base, 61), true);
            }
            check.due("isFermat(0, 64)", Trial.fresh().isFermat(0, 64), true);
            check.due("isFermat(1, 64)", Trial.fresh().isFermat(1, 64), true);
            check.due("isFermat(-1, 64)", Trial.fresh().isFermat(-1, 64), false);
            check.due("isFermat(-64, 1)", Trial.fresh().isFermat(-64, 1), true);
            check.due("isFermat(2, 4)", Trial.fresh().isFermat(2, 4), false);
            check.due("isFermat(2, 52)", Trial.fresh().isFermat(2, 52), false);
        });
        book.says("Throws IllegalArgumentException if the base is not from -64 to 64, or the number not from 1 to 64",
                () -> {
                    for (int by : new int[] {1, 8}) {
                        trial.bounds("isFermat, the base", -64, 64, Trial.ARGUMENT, Trial::filled,
                                (mill, base) -> mill.isFermat(base, by) ? 1 : 0);
                    }
                    for (int base : new int[] {-1, 0, 1}) {
                        trial.bounds("isFermat, the number", 1, 64, Trial.ARGUMENT, Trial::filled,
                                (mill, by) -> mill.isFermat(base, by) ? 1 : 0);
                    }
                });
        book.says("Throws UnsupportedOperationException if the power is not near",
                () -> lastExponents("isFermat", LAST_NEAR, (mill, base, by) -> mill.isFermat(base, by) ? 1 : 0));
    }

    private void multiples() {
        for (int base = -64; base <= 64; base++) {
            for (int by = 1; by <= 64 && Exact.isNear(base, by); by++) {
                BigInteger difference = Exact.power(base, by).subtract(BigInteger.valueOf(base));
                boolean due = difference.mod(BigInteger.valueOf(by)).signum() == 0;
                int each = base;
                int number = by;
                trial.asks("isFermat(" + base + ", " + by + ")", Trial::filled, due ? 1 : 0,
                        Trial.is(mill -> mill.isFermat(each, number)));
            }
        }
    }

    // ---- laws of powers

    private void promise25() {
        book.section("Promise 25: isChain");
        book.says("Returns whether a power has the same bits as the product of so many factors, multiplied as doubles "
                + "one after another, from 1 on.", () -> {
                    trial.asks("isChain(0, 0), of no factor", Trial::filled, 1, Trial.is(mill -> mill.isChain(0, 0)));
                    trial.asks("isChain(-3, 0), of no factor", Trial::filled, 1, Trial.is(mill -> mill.isChain(-3, 0)));
                    trial.asks("isChain(-3, 1), of one", Trial::filled, 1, Trial.is(mill -> mill.isChain(-3, 1)));
                    trial.asks("isChain(0, 64)", Trial::filled, 1, Trial.is(mill -> mill.isChain(0, 64)));
                    trial.asks("isChain(64, 64)", Trial::filled, 1, Trial.is(mill -> mill.isChain(64, 64)));
                    trial.asks("isChain(-48, 33)", Trial::filled, 1, Trial.is(mill -> mill.isChain(-48, 33)));
                });
        book.says("Returns whether it has: it always has.", () -> {
            for (int base = -64; base <= 64; base++) {
                for (int exponent = 0; exponent <= 64 && Exact.isTold(base, exponent); exponent++) {
                    check.due("isChain(" + base + ", " + exponent + ")", Trial.fresh().isChain(base, exponent), true);
                }
            }
        });
        book.says("Throws IllegalArgumentException if the base is not from -64 to 64, or the exponent not from 0 to 64",
                () -> {
                    baseAndExponentBounds("isChain", (mill, base) -> mill.isChain(base, 1) ? 1 : 0,
                            (mill, exponent) -> mill.isChain(2, exponent) ? 1 : 0);
                    baseAndExponentBounds("isChain", (mill, base) -> mill.isChain(base, 0) ? 1 : 0,
                            (mill, exponent) -> mill.isChain(0, exponent) ? 1 : 0);
                });
        book.says("Throws UnsupportedOperationException if the power is not told", () -> lastExponents("isChain",
                LAST_TOLD, (mill, base, exponent) -> mill.isChain(base, exponent) ? 1 : 0));
    }

    private void promise26() {
        book.section("Promise 26: addsUp");
        book.says("Returns whether the product of two powers of a base, multiplied as doubles, has the same bits as "
                + "the power by both exponents together.", () -> {
                    for (int[] two : new int[][] {{0, 0}, {0, 64}, {64, 0}, {32, 32}, {1, 63}}) {
                        for (int base : new int[] {-64, -1, 0, 1, 2, 64}) {
                            trial.asks("addsUp(" + base + ", " + two[0] + ", " + two[1] + ")", Trial::filled, 1,
                                    Trial.is(mill -> mill.addsUp(base, two[0], two[1])));
                        }
                    }
                    trial.asks("addsUp(-48, 16, 17)", Trial::filled, 1, Trial.is(mill -> mill.addsUp(-48, 16, 17)));
                });
        book.says("Returns whether it has: it always has.", () -> {
            for (int base = -64; base <= 64; base++) {
                for (int both = 0; both <= 64 && Exact.isTold(base, both); both++) {
                    for (int one = 0; one <= both; one++) {
                        check.due("addsUp(" + base + ", " + one + ", " + (both - one) + ")",
                                Trial.fresh().addsUp(base, one, both - one), true);
                    }
                }
            }
        });
        book.says("Throws IllegalArgumentException if the base is not from -64 to 64, or one of the exponents, or both "
                + "together, not from 0 to 64", () -> {
                    baseAndExponentBounds("addsUp", (mill, base) -> mill.addsUp(base, 1, 0) ? 1 : 0,
                            (mill, exponent) -> mill.addsUp(2, exponent, 0) ? 1 : 0);
                    trial.bounds("addsUp, the other exponent", 0, 64, Trial.ARGUMENT, Trial::filled,
                            (mill, other) -> mill.addsUp(2, 0, other) ? 1 : 0);
                    trial.edges("addsUp, both together", new int[] {0, 31, 32}, new int[] {33, 34, 64, -1},
                            Trial.ARGUMENT, Trial::filled, (mill, other) -> mill.addsUp(2, 32, other) ? 1 : 0);
                    trial.edges("addsUp, both together", new int[] {0}, new int[] {1, 64}, Trial.ARGUMENT,
                            Trial::filled, (mill, exponent) -> mill.addsUp(2, exponent, 64) ? 1 : 0);
                    trial.edges("addsUp, an exponent, both together within", new int[] {0, 1, 32},
                            new int[] {-1, -2, -32}, Trial.ARGUMENT, Trial::filled,
                            (mill, exponent) -> mill.addsUp(2, exponent, 32) ? 1 : 0);
                    trial.edges("addsUp, the other, both together within", new int[] {0, 1, 32},
                            new int[] {-1, -2, -32}, Trial.ARGUMENT, Trial::filled,
                            (mill, other) -> mill.addsUp(2, 32, other) ? 1 : 0);
                    trial.edges("addsUp, both together 64", new int[] {0, 64}, new int[] {-1, 65, Integer.MIN_VALUE},
                            Trial.ARGUMENT, Trial::filled,
                            (mill, exponent) -> mill.addsUp(2, exponent, 64 - exponent) ? 1 : 0);
                });
        book.says("Throws UnsupportedOperationException if the power by both together is not told", () -> {
            lastExponents("addsUp", LAST_TOLD, (mill, base, both) -> mill.addsUp(base, 0, both) ? 1 : 0);
            lastExponents("addsUp", LAST_TOLD, (mill, base, both) -> mill.addsUp(base, both, 0) ? 1 : 0);
            lastExponents("addsUp", LAST_TOLD,
                    (mill, base, both) -> mill.addsUp(base, both / 2, both - both / 2) ? 1 : 0);
        });
    }

    private void promise27() {
        book.section("Promise 27: isNested");
        book.says("Returns whether the power of a power of a base has the same bits as the power by the product of "
                + "both exponents.", () -> {
                    for (int[] two : new int[][] {{0, 0}, {0, 64}, {64, 0}, {8, 8}, {1, 64}, {64, 1}}) {
                        for (int base : new int[] {-64, -1, 0, 1, 2, 64}) {
                            trial.asks("isNested(" + base + ", " + two[0] + ", " + two[1] + ")", Trial::filled, 1,
                                    Trial.is(mill -> mill.isNested(base, two[0], two[1])));
                        }
                    }
                    trial.asks("isNested(-48, 3, 11)", Trial::filled, 1, Trial.is(mill -> mill.isNested(-48, 3, 11)));
                });
        book.says("Returns whether it has: it always has.", () -> {
            for (int base = -64; base <= 64; base++) {
                for (int one = 0; one <= 64 && Exact.isTold(base, one); one++) {
                    for (int other = 0; other <= 64 && one * other <= 64 && Exact.isTold(base, one * other); other++) {
                        check.due("isNested(" + base + ", " + one + ", " + other + ")",
                                Trial.fresh().isNested(base, one, other), true);
                    }
                }
            }
        });
        book.says("Throws IllegalArgumentException if the base is not from -64 to 64, or one of the exponents, or "
                + "their product, not from 0 to 64", () -> {
                    baseAndExponentBounds("isNested", (mill, base) -> mill.isNested(base, 1, 1) ? 1 : 0,
                            (mill, exponent) -> mill.isNested(2, exponent, 0) ? 1 : 0);
                    trial.bounds("isNested, the other exponent", 0, 64, Trial.ARGUMENT, Trial::filled,
                            (mill, other) -> mill.isNested(2, 0, other) ? 1 : 0);
                    trial.edges("isNested, their product", new int[] {0, 8}, new int[] {9, 10, 64, -8},
                            Trial.ARGUMENT, Trial::filled, (mill, other) -> mill.isNested(2, 8, other) ? 1 : 0);
                    trial.edges("isNested, their product with 13", new int[] {4}, new int[] {5}, Trial.ARGUMENT,
                            Trial::filled, (mill, other) -> mill.isNested(2, 13, other) ? 1 : 0);
                    trial.edges("isNested, their product with 5", new int[] {12}, new int[] {13}, Trial.ARGUMENT,
                            Trial::filled, (mill, other) -> mill.isNested(2, 5, other) ? 1 : 0);
                    trial.edges("isNested, both below 0", new int[] {}, new int[] {-1, -8}, Trial.ARGUMENT,
                            Trial::filled, (mill, other) -> mill.isNested(2, other, other) ? 1 : 0);
                    trial.edges("isNested, a product that wraps around to 0", new int[] {},
                            new int[] {1 << 26, 1 << 30}, Trial.ARGUMENT, Trial::filled,
                            (mill, other) -> mill.isNested(2, 64, other) ? 1 : 0);
                });
        book.says("Throws UnsupportedOperationException if the first power, or the power by the product, is not told",
                () -> {
                    lastExponents("isNested, the first power", LAST_TOLD,
                            (mill, base, exponent) -> mill.isNested(base, exponent, 1) ? 1 : 0);
                    lastExponents("isNested, the first power, to that of 0", LAST_TOLD,
                            (mill, base, exponent) -> mill.isNested(base, exponent, 0) ? 1 : 0);
                    lastExponents("isNested, the product", LAST_TOLD,
                            (mill, base, exponent) -> mill.isNested(base, 1, exponent) ? 1 : 0);
                    trial.edges("isNested of 3, the product with 3", new int[] {11}, new int[] {12}, Trial.UNSUPPORTED,
                            Trial::filled, (mill, other) -> mill.isNested(3, 3, other) ? 1 : 0);
                    trial.edges("isNested of 3, the product with 2", new int[] {16}, new int[] {17}, Trial.UNSUPPORTED,
                            Trial::filled, (mill, exponent) -> mill.isNested(3, exponent, 2) ? 1 : 0);
                });
    }
}
