/** Promises 9 to 21: what a number is, order, digits and roots. */
public final class AskingTest {
    private static final Class<IndexOutOfBoundsException> NO_SLOT = IndexOutOfBoundsException.class;
    private static final Class<IllegalArgumentException> NO_ARGUMENT = IllegalArgumentException.class;
    private static final Class<IllegalStateException> NO_STATE = IllegalStateException.class;

    private static final Check check = new Check();

    public static void main(String[] args) {
        promises9To11Parts();
        promise12Bits();
        promise13IsWhole();
        promise14Whole();
        promise15Compare();
        promise16Rank();
        promise17At();
        promise18Log();
        promise19Digits();
        promise20Digit();
        promise21Root();
        check.finish("AskingTest");
    }

    private static void promises9To11Parts() {
        Powermill mill = Trial.filled();
        int[] signs = {0, 1, -1, 1, 1, 1, 1, -1};
        long[] odds = {0, 3, 5, 1, 1, 1, 1, 5559060566555523L};
        int[] shifts = {0, 2, 0, -2, 52, 53, -1000, 33};
        for (int slot = 0; slot < 8; slot++) {
            check.due("sign(" + slot + ")", mill.sign(slot), signs[slot]);
            check.due("odd(" + slot + ")", mill.odd(slot), odds[slot]);
            check.due("shift(" + slot + ")", mill.shift(slot), shifts[slot]);
        }
        for (int slot : new int[] {-1, 8, Integer.MIN_VALUE, Integer.MAX_VALUE}) {
            check.refused("sign(" + slot + ")", NO_SLOT, () -> mill.sign(slot));
            check.refused("odd(" + slot + ")", NO_SLOT, () -> mill.odd(slot));
            check.refused("shift(" + slot + ")", NO_SLOT, () -> mill.shift(slot));
        }
    }

    private static void promise12Bits() {
        Powermill mill = Trial.filled();
        double[] numbers = {0, 12, -5, 0.25, 0x1p52, 0x1p53, 0x1p-1000, -5559060566555523.0 * 0x1p33};
        for (int slot = 0; slot < 8; slot++) {
            check.due("bits(" + slot + ")", mill.bits(slot), Double.doubleToLongBits(numbers[slot]));
        }
        mill.twoTo(0, 1000);
        check.due("bits of 2 to the power of 1000", mill.bits(0), Double.doubleToLongBits(0x1p1000));
        mill.put(0, -1);
        check.due("bits of -1", mill.bits(0), Double.doubleToLongBits(-1));
        check.refused("bits(8)", NO_SLOT, () -> mill.bits(8));
        check.refused("bits(-1)", NO_SLOT, () -> mill.bits(-1));
    }

    private static void promise13IsWhole() {
        Powermill mill = Trial.filled();
        boolean[] wholes = {true, true, true, false, true, true, false, true};
        for (int slot = 0; slot < 8; slot++) {
            check.due("isWhole(" + slot + ")", mill.isWhole(slot), wholes[slot]);
        }
        mill.twoTo(0, -1);
        check.due("isWhole of a half", mill.isWhole(0), false);
        mill.twoTo(0, 0);
        check.due("isWhole of 1", mill.isWhole(0), true);
        check.refused("isWhole(8)", NO_SLOT, () -> mill.isWhole(8) ? 1 : 0);
        check.refused("isWhole(-1)", NO_SLOT, () -> mill.isWhole(-1) ? 1 : 0);
    }

    private static void promise14Whole() {
        Powermill mill = Trial.filled();
        check.due("whole(0)", mill.whole(0), 0);
        check.due("whole(1)", mill.whole(1), 12);
        check.due("whole(2)", mill.whole(2), -5);
        check.due("whole(4)", mill.whole(4), 1L << 52);
        check.refused("whole of a quarter", NO_STATE, () -> mill.whole(3));
        check.refused("whole of 2 to the power of 53", NO_STATE, () -> mill.whole(5));
        check.refused("whole of 2 to the power of -1000", NO_STATE, () -> mill.whole(6));
        check.refused("whole of -6 to the power of 33", NO_STATE, () -> mill.whole(7));
        mill.twoTo(5, 1000);
        check.refused("whole of 2 to the power of 1000", NO_STATE, () -> mill.whole(5));
        mill.twoTo(5, 64);
        check.refused("whole of 2 to the power of 64", NO_STATE, () -> mill.whole(5));
        mill.power(5, -3, 33);
        check.due("whole of -3 to the power of 33", mill.whole(5), -5559060566555523L);
        mill.power(5, -6, 20);
        check.due("whole of -6 to the power of 20", mill.whole(5), 3656158440062976L);
        mill.power(5, -6, 21);
        check.refused("whole of -6 to the power of 21", NO_STATE, () -> mill.whole(5));
        check.refused("whole(8)", NO_SLOT, () -> mill.whole(8));
        check.refused("whole(-1)", NO_SLOT, () -> mill.whole(-1));
    }

    private static void promise15Compare() {
        Powermill mill = Trial.filled();
        int[] rising = {7, 2, 0, 6, 3, 1, 4, 5};
        for (int first = 0; first < 8; first++) {
            for (int second = 0; second < 8; second++) {
                check.due("compare(" + rising[first] + ", " + rising[second] + ")",
                        mill.compare(rising[first], rising[second]), Integer.compare(first, second));
            }
        }
        mill.put(0, -6);
        mill.put(1, -5);
        check.due("-6 and -5", mill.compare(0, 1), -1);
        check.due("-5 and -6", mill.compare(1, 0), 1);
        check.due("-5 and -5", mill.compare(1, 2), 0);
        mill.put(0, 63);
        mill.put(1, 64);
        check.due("63 and 64", mill.compare(0, 1), -1);
        check.refused("compare(8, 0)", NO_SLOT, () -> mill.compare(8, 0));
        check.refused("compare(0, 8)", NO_SLOT, () -> mill.compare(0, 8));
        check.refused("compare(-1, 0)", NO_SLOT, () -> mill.compare(-1, 0));
        check.refused("compare(0, -1)", NO_SLOT, () -> mill.compare(0, -1));
    }

    private static void promise16Rank() {
        Powermill mill = Trial.filled();
        int[] ranks = {2, 5, 1, 4, 6, 7, 3, 0};
        for (int slot = 0; slot < 8; slot++) {
            check.due("rank(" + slot + ")", mill.rank(slot), ranks[slot]);
        }
        Powermill even = new Powermill();
        check.due("rank(7) of same ones", even.rank(7), 0);
        even.put(3, -1);
        check.due("rank(7) above one", even.rank(7), 1);
        even.put(5, 9);
        check.due("rank(5) above seven", even.rank(5), 7);
        check.refused("rank(8)", NO_SLOT, () -> mill.rank(8));
        check.refused("rank(-1)", NO_SLOT, () -> mill.rank(-1));
    }

    private static void promise17At() {
        Powermill mill = Trial.filled();
        int[] rising = {7, 2, 0, 6, 3, 1, 4, 5};
        for (int place = 0; place < 8; place++) {
            check.due("at(" + place + ")", mill.at(place), rising[place]);
        }
        Powermill even = new Powermill();
        for (int place = 0; place < 8; place++) {
            check.due("at(" + place + ") of same ones", even.at(place), place);
        }
        even.put(4, -3);
        even.put(6, -3);
        even.put(1, 8);
        int[] mixed = {4, 6, 0, 2, 3, 5, 7, 1};
        for (int place = 0; place < 8; place++) {
            check.due("at(" + place + ") of some same ones", even.at(place), mixed[place]);
        }
        check.refused("at(8)", NO_SLOT, () -> even.at(8));
        check.refused("at(-1)", NO_SLOT, () -> even.at(-1));
    }

    private static void digitRefusals(String name, java.util.function.BiFunction<Integer, Integer, Long> call) {
        check.refused(name + " of no slot", NO_SLOT, () -> call.apply(2, 8));
        check.refused(name + " of no slot, and base 1", NO_SLOT, () -> call.apply(1, -1));
        check.refused(name + " to base 1", NO_ARGUMENT, () -> call.apply(1, 1));
        check.refused(name + " to base 0", NO_ARGUMENT, () -> call.apply(0, 1));
        check.refused(name + " to base -2", NO_ARGUMENT, () -> call.apply(-2, 1));
        check.refused(name + " to base 65", NO_ARGUMENT, () -> call.apply(65, 1));
        check.refused(name + " to base 65 of a quarter", NO_ARGUMENT, () -> call.apply(65, 3));
        check.refused(name + " of a quarter", NO_STATE, () -> call.apply(2, 3));
        check.refused(name + " of 2 to the power of 53", NO_STATE, () -> call.apply(64, 5));
        check.refused(name + " of -6 to the power of 33", NO_STATE, () -> call.apply(64, 7));
    }

    private static void promise18Log() {
        Powermill mill = Trial.filled();
        check.due("log(2, 12)", mill.log(2, 1), 3);
        check.due("log(12, 12)", mill.log(12, 1), 1);
        check.due("log(13, 12)", mill.log(13, 1), 0);
        check.due("log(2, 2 to the power of 52)", mill.log(2, 4), 52);
        check.due("log(64, 2 to the power of 52)", mill.log(64, 4), 8);
        mill.power(5, 3, 33);
        check.due("log(3, 3 to the power of 33)", mill.log(3, 5), 33);
        check.due("log(2, 3 to the power of 33)", mill.log(2, 5), 52);
        mill.put(5, 1);
        check.due("log(2, 1)", mill.log(2, 5), 0);
        mill.twoTo(5, 53);
        digitRefusals("log", (base, slot) -> (long) mill.log(base, slot));
        check.refused("log of 0", ArithmeticException.class, () -> mill.log(2, 0));
        check.refused("log of -5", ArithmeticException.class, () -> mill.log(2, 2));
    }

    private static void promise19Digits() {
        Powermill mill = Trial.filled();
        check.due("digits(2, 0)", mill.digits(2, 0), 1);
        check.due("digits(2, 12)", mill.digits(2, 1), 4);
        check.due("digits(12, 12)", mill.digits(12, 1), 2);
        check.due("digits(13, 12)", mill.digits(13, 1), 1);
        check.due("digits(2, -5)", mill.digits(2, 2), 3);
        check.due("digits(2, 2 to the power of 52)", mill.digits(2, 4), 53);
        check.due("digits(64, 2 to the power of 52)", mill.digits(64, 4), 9);
        digitRefusals("digits", (base, slot) -> (long) mill.digits(base, slot));
    }

    private static void promise20Digit() {
        Powermill mill = Trial.filled();
        int[] twelve = {0, 0, 1, 1, 0, 0};
        for (int place = 0; place < twelve.length; place++) {
            check.due("digit(2, 12, " + place + ")", mill.digit(2, 1, place), twelve[place]);
        }
        check.due("digit(10, -5, 0)", mill.digit(10, 2, 0), 5);
        check.due("digit(10, -5, 1)", mill.digit(10, 2, 1), 0);
        check.due("digit(64, 0, 0)", mill.digit(64, 0, 0), 0);
        check.due("digit(2, 2 to the power of 52, 52)", mill.digit(2, 4, 52), 1);
        check.due("digit(2, 2 to the power of 52, 53)", mill.digit(2, 4, 53), 0);
        check.due("digit(2, 2 to the power of 52, 116)", mill.digit(2, 4, 116), 0);
        check.due("digit at the greatest place", mill.digit(2, 4, Integer.MAX_VALUE), 0);
        mill.put(0, -63);
        check.due("digit(64, -63, 0)", mill.digit(64, 0, 0), 63);
        digitRefusals("digit", (base, slot) -> (long) mill.digit(base, slot, 0));
        check.refused("digit at -1", NO_ARGUMENT, () -> mill.digit(2, 1, -1));
        check.refused("digit at -1 of a quarter", NO_ARGUMENT, () -> mill.digit(2, 3, -1));
        check.refused("digit at -1 of no slot", NO_SLOT, () -> mill.digit(2, 8, -1));
    }

    private static void promise21Root() {
        Powermill mill = Trial.filled();
        check.due("root(1, 0)", mill.root(1, 0), 0);
        check.due("root(53, 0)", mill.root(53, 0), 0);
        check.due("root(1, 12)", mill.root(1, 1), 12);
        check.due("root(2, 12)", mill.root(2, 1), 3);
        check.due("root(3, 12)", mill.root(3, 1), 2);
        check.due("root(4, 12)", mill.root(4, 1), 1);
        check.due("root(53, 12)", mill.root(53, 1), 1);
        check.due("root(1, 2 to the power of 52)", mill.root(1, 4), 64);
        check.due("root(52, 2 to the power of 52)", mill.root(52, 4), 2);
        check.due("root(53, 2 to the power of 52)", mill.root(53, 4), 1);
        mill.power(0, 63, 8);
        check.due("root(8, 63 to the power of 8)", mill.root(8, 0), 63);
        mill.power(0, 64, 8);
        check.due("root(8, 64 to the power of 8)", mill.root(8, 0), 64);
        check.due("root(9, 64 to the power of 8)", mill.root(9, 0), 40);
        check.refused("root of no slot", NO_SLOT, () -> mill.root(0, 8));
        check.refused("root of no slot below", NO_SLOT, () -> mill.root(1, -1));
        check.refused("root by 0", NO_ARGUMENT, () -> mill.root(0, 1));
        check.refused("root by -1", NO_ARGUMENT, () -> mill.root(-1, 1));
        check.refused("root by 54", NO_ARGUMENT, () -> mill.root(54, 1));
        check.refused("root by 54 of a quarter", NO_ARGUMENT, () -> mill.root(54, 3));
        check.refused("root of a quarter", NO_STATE, () -> mill.root(2, 3));
        check.refused("root of 2 to the power of 53", NO_STATE, () -> mill.root(2, 5));
        check.refused("root of -6 to the power of 33", NO_STATE, () -> mill.root(3, 7));
        check.refused("root of -5", ArithmeticException.class, () -> mill.root(1, 2));
    }
}
