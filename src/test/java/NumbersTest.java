/** Promises 1 to 8: slots, how they become numbers, and undoing. */
public final class NumbersTest {
    private static final Class<IndexOutOfBoundsException> NO_SLOT = IndexOutOfBoundsException.class;
    private static final Class<IllegalArgumentException> NO_ARGUMENT = IllegalArgumentException.class;
    private static final Class<UnsupportedOperationException> NOT_TOLD = UnsupportedOperationException.class;

    private static final Check check = new Check();

    public static void main(String[] args) {
        promise1NewObject();
        promise2Put();
        promise3Power();
        promise4TwoTo();
        promise5Raise();
        promise5RaiseRefusals();
        promise6Copy();
        promise7Undo();
        promise8Kept();
        exceptionsChangeNothing();
        check.finish("NumbersTest");
    }

    private static void holds(Powermill mill, int slot, int sign, long odd, int shift) {
        check.due("sign(" + slot + ")", mill.sign(slot), sign);
        check.due("odd(" + slot + ")", mill.odd(slot), odd);
        check.due("shift(" + slot + ")", mill.shift(slot), shift);
    }

    private static void promise1NewObject() {
        Powermill mill = new Powermill();
        for (int slot = 0; slot < 8; slot++) {
            holds(mill, slot, 0, 0, 0);
            check.due("whole of a new slot", mill.whole(slot), 0);
        }
        check.refused("sign(8)", NO_SLOT, () -> mill.sign(8));
        check.due("kept() of a new object", mill.kept(), 0);
        check.refused("undo() of a new object", java.util.NoSuchElementException.class, () -> mill.undo());
        Powermill other = new Powermill();
        mill.put(0, 5);
        holds(other, 0, 0, 0, 0);
    }

    private static void promise2Put() {
        Powermill mill = new Powermill();
        check.due("put(0, 12)", mill.put(0, 12), 2);
        holds(mill, 0, 1, 3, 2);
        check.due("put(7, -64)", mill.put(7, -64), 6);
        holds(mill, 7, -1, 1, 6);
        check.due("put(7, 64)", mill.put(7, 64), 6);
        holds(mill, 7, 1, 1, 6);
        check.due("put(3, -63)", mill.put(3, -63), 0);
        holds(mill, 3, -1, 63, 0);
        check.due("put(3, 0)", mill.put(3, 0), 0);
        holds(mill, 3, 0, 0, 0);
        check.refused("put(0, 65)", NO_ARGUMENT, () -> mill.put(0, 65));
        check.refused("put(0, -65)", NO_ARGUMENT, () -> mill.put(0, -65));
        check.refused("put(0, least)", NO_ARGUMENT, () -> mill.put(0, Integer.MIN_VALUE));
        check.refused("put(-1, 1)", NO_SLOT, () -> mill.put(-1, 1));
        check.refused("put(8, 1)", NO_SLOT, () -> mill.put(8, 1));
        check.refused("put(8, 65): the slot first", NO_SLOT, () -> mill.put(8, 65));
        for (int whole = -64; whole <= 64; whole++) {
            Powermill each = new Powermill();
            each.put(5, whole);
            check.due("whole after put(5, " + whole + ")", each.whole(5), whole);
        }
    }

    private static void promise3Power() {
        Powermill mill = new Powermill();
        check.due("power(0, 3, 33)", mill.power(0, 3, 33), 0);
        holds(mill, 0, 1, 5559060566555523L, 0);
        check.due("power(1, -6, 33)", mill.power(1, -6, 33), 33);
        holds(mill, 1, -1, 5559060566555523L, 33);
        check.due("power(1, -6, 32)", mill.power(1, -6, 32), 32);
        holds(mill, 1, 1, 1853020188851841L, 32);
        check.due("power(2, 64, 64)", mill.power(2, 64, 64), 384);
        holds(mill, 2, 1, 1, 384);
        check.due("power(3, 0, 0)", mill.power(3, 0, 0), 0);
        holds(mill, 3, 1, 1, 0);
        check.due("power(3, 0, 64)", mill.power(3, 0, 64), 0);
        holds(mill, 3, 0, 0, 0);
        check.due("power(3, -5, 0)", mill.power(3, -5, 0), 0);
        holds(mill, 3, 1, 1, 0);
        check.due("power(3, -1, 63)", mill.power(3, -1, 63), 0);
        holds(mill, 3, -1, 1, 0);
        check.due("power(3, 63, 8)", mill.power(3, 63, 8), 0);
        holds(mill, 3, 1, 248155780267521L, 0);
        check.refused("power(0, 3, 34)", NOT_TOLD, () -> mill.power(0, 3, 34));
        check.refused("power(0, 63, 9)", NOT_TOLD, () -> mill.power(0, 63, 9));
        check.refused("power(0, -63, 64)", NOT_TOLD, () -> mill.power(0, -63, 64));
        check.refused("power(0, 65, 1)", NO_ARGUMENT, () -> mill.power(0, 65, 1));
        check.refused("power(0, -65, 1)", NO_ARGUMENT, () -> mill.power(0, -65, 1));
        check.refused("power(0, 2, 65)", NO_ARGUMENT, () -> mill.power(0, 2, 65));
        check.refused("power(0, 2, -1)", NO_ARGUMENT, () -> mill.power(0, 2, -1));
        check.refused("power(0, 3, 65): the range first", NO_ARGUMENT, () -> mill.power(0, 3, 65));
        check.refused("power(8, 65, 65): the slot first", NO_SLOT, () -> mill.power(8, 65, 65));
        check.refused("power(-1, 3, 34): the slot first", NO_SLOT, () -> mill.power(-1, 3, 34));
    }

    private static void promise4TwoTo() {
        Powermill mill = new Powermill();
        for (int exponent : new int[] {-1000, -999, -1, 0, 1, 52, 999, 1000}) {
            check.due("twoTo(4, " + exponent + ")", mill.twoTo(4, exponent), exponent);
            holds(mill, 4, 1, 1, exponent);
            check.due("bits of 2 to the power of " + exponent, mill.bits(4), (exponent + 1023L) << 52);
        }
        check.refused("twoTo(4, 1001)", NO_ARGUMENT, () -> mill.twoTo(4, 1001));
        check.refused("twoTo(4, -1001)", NO_ARGUMENT, () -> mill.twoTo(4, -1001));
        check.refused("twoTo(8, 1)", NO_SLOT, () -> mill.twoTo(8, 1));
        check.refused("twoTo(-1, 1001): the slot first", NO_SLOT, () -> mill.twoTo(-1, 1001));
    }

    private static void promise5Raise() {
        Powermill mill = new Powermill();
        mill.put(0, -12);
        check.due("raise(0, 3, 1)", mill.raise(0, 3, 1), 6);
        holds(mill, 1, -1, 27, 6);
        holds(mill, 0, -1, 3, 2);
        check.due("raise(1, 2, 1)", mill.raise(1, 2, 1), 12);
        holds(mill, 1, 1, 729, 12);
        check.due("raise(1, 0, 2)", mill.raise(1, 0, 2), 0);
        holds(mill, 2, 1, 1, 0);
        mill.put(3, -4);
        check.due("raise(3, -3, 4)", mill.raise(3, -3, 4), -6);
        holds(mill, 4, -1, 1, -6);
        check.due("raise(3, -64, 4)", mill.raise(3, -64, 4), -128);
        holds(mill, 4, 1, 1, -128);
        mill.put(3, -1);
        check.due("raise(3, -63, 3)", mill.raise(3, -63, 3), 0);
        holds(mill, 3, -1, 1, 0);
        check.due("raise(3, -64, 3)", mill.raise(3, -64, 3), 0);
        holds(mill, 3, 1, 1, 0);
        check.due("raise(7, 0, 6) of 0", mill.raise(7, 0, 6), 0);
        holds(mill, 6, 1, 1, 0);
        check.due("raise(7, 64, 6) of 0", mill.raise(7, 64, 6), 0);
        holds(mill, 6, 0, 0, 0);
        mill.twoTo(5, 25);
        check.due("raise(5, 40, 6)", mill.raise(5, 40, 6), 1000);
        check.due("raise(5, -40, 6)", mill.raise(5, -40, 6), -1000);
        mill.twoTo(5, 1000);
        check.due("raise(5, -1, 5)", mill.raise(5, -1, 5), -1000);
        holds(mill, 5, 1, 1, -1000);
    }

    private static void promise5RaiseRefusals() {
        Powermill mill = new Powermill();
        mill.twoTo(0, -1);
        mill.put(2, 3);
        mill.twoTo(3, 25);
        check.refused("raise(-1, 1, 0)", NO_SLOT, () -> mill.raise(-1, 1, 0));
        check.refused("raise(0, 1, 8)", NO_SLOT, () -> mill.raise(0, 1, 8));
        check.refused("raise(0, 65, -1): the slot first", NO_SLOT, () -> mill.raise(0, 65, -1));
        check.refused("raise(2, 65, 1)", NO_ARGUMENT, () -> mill.raise(2, 65, 1));
        check.refused("raise(2, -65, 1)", NO_ARGUMENT, () -> mill.raise(2, -65, 1));
        check.refused("raise(0, 65, 1): the range ahead of the base", NO_ARGUMENT, () -> mill.raise(0, 65, 1));
        check.refused("raise(0, 0, 1) of a half", IllegalStateException.class, () -> mill.raise(0, 0, 1));
        check.refused("raise(0, -1, 1) of a half", IllegalStateException.class, () -> mill.raise(0, -1, 1));
        check.refused("raise(1, -1, 1) of 0", ArithmeticException.class, () -> mill.raise(1, -1, 1));
        check.refused("raise(2, -1, 1) of 3", NOT_TOLD, () -> mill.raise(2, -1, 1));
        check.refused("raise(2, 34, 1) of 3", NOT_TOLD, () -> mill.raise(2, 34, 1));
        check.refused("raise(3, 41, 1)", NOT_TOLD, () -> mill.raise(3, 41, 1));
        check.refused("raise(3, -41, 1)", NOT_TOLD, () -> mill.raise(3, -41, 1));
        check.due("slot 1 after refusals", mill.sign(1), 0);
    }

    private static void promise6Copy() {
        Powermill mill = new Powermill();
        mill.power(0, -6, 33);
        check.due("copy(0, 7)", mill.copy(0, 7), 33);
        holds(mill, 7, -1, 5559060566555523L, 33);
        holds(mill, 0, -1, 5559060566555523L, 33);
        check.due("copy(3, 7)", mill.copy(3, 7), 0);
        holds(mill, 7, 0, 0, 0);
        check.due("copy(0, 0)", mill.copy(0, 0), 33);
        check.due("kept() after copies", mill.kept(), 4);
        mill.put(0, 1);
        holds(mill, 7, 0, 0, 0);
        check.refused("copy(8, 0)", NO_SLOT, () -> mill.copy(8, 0));
        check.refused("copy(0, 8)", NO_SLOT, () -> mill.copy(0, 8));
        check.refused("copy(-1, 0)", NO_SLOT, () -> mill.copy(-1, 0));
        check.refused("copy(0, -1)", NO_SLOT, () -> mill.copy(0, -1));
    }

    private static void promise7Undo() {
        Powermill mill = new Powermill();
        mill.put(1, -7);
        mill.twoTo(2, -9);
        mill.raise(1, 3, 1);
        mill.copy(1, 2);
        check.due("undo() of copy", mill.undo(), 2);
        holds(mill, 2, 1, 1, -9);
        check.due("undo() of raise", mill.undo(), 1);
        holds(mill, 1, -1, 7, 0);
        check.due("undo() of twoTo", mill.undo(), 2);
        holds(mill, 2, 0, 0, 0);
        mill.power(2, 5, 2);
        check.due("undo() of power", mill.undo(), 2);
        holds(mill, 2, 0, 0, 0);
        check.due("undo() of put", mill.undo(), 1);
        holds(mill, 1, 0, 0, 0);
        check.refused("undo() of nothing", java.util.NoSuchElementException.class, () -> mill.undo());
    }

    private static void promise8Kept() {
        Powermill mill = new Powermill();
        for (int whole = 1; whole <= 20; whole++) {
            mill.put(whole % 3, whole);
            check.due("kept() after " + whole, mill.kept(), Math.min(whole, 8));
        }
        mill.put(0, 18);
        check.due("kept() after the same number", mill.kept(), 8);
        check.due("undo() of the same number", mill.undo(), 0);
        check.due("slot 0 after that", mill.whole(0), 18);
        for (int whole = 20; whole > 13; whole--) {
            check.due("undo() of " + whole, mill.undo(), whole % 3);
            check.due("the slot after that", mill.whole(whole % 3), whole - 3);
            check.due("kept() after that", mill.kept(), whole - 14);
        }
        check.refused("undo() of the forgotten", java.util.NoSuchElementException.class, () -> mill.undo());
        check.due("kept() after a refusal", mill.kept(), 0);
    }

    private static void exceptionsChangeNothing() {
        Powermill mill = new Powermill();
        mill.put(0, 3);
        Check.Call[] refusals = {() -> mill.put(0, 65), () -> mill.power(0, 3, 34), () -> mill.twoTo(0, 1001),
            () -> mill.raise(0, 64, 0), () -> mill.raise(0, -1, 1), () -> mill.raise(1, -1, 0), () -> mill.copy(0, 8)};
        for (Check.Call refusal : refusals) {
            check.due("a refusal", Check.outcome(refusal).startsWith("throws "), true);
            check.due("kept() after a refusal", mill.kept(), 1);
            check.due("slot 0 after a refusal", mill.whole(0), 3);
            check.due("slot 1 after a refusal", mill.whole(1), 0);
        }
    }
}
