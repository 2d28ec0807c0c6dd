/** Promises 28 to 35: powers by 0.5 and by 2. */
public final class RootsTest {
    private static final Class<IndexOutOfBoundsException> NO_SLOT = IndexOutOfBoundsException.class;
    private static final Class<IllegalArgumentException> NO_ARGUMENT = IllegalArgumentException.class;
    private static final Class<UnsupportedOperationException> NOT_TOLD = UnsupportedOperationException.class;
    private static final int[] BEYOND = {-1, 4096, Integer.MIN_VALUE, Integer.MAX_VALUE};

    private static final Check check = new Check();
    private static final Powermill mill = new Powermill();

    public static void main(String[] args) {
        promise28RootBits();
        promise29IsRoot();
        promise30RootAt();
        promise31BackBits();
        promise32IsBack();
        promise33SquareBits();
        promise33NearestOfTwo();
        promise34IsTimes();
        promise35IsSound();
        check.finish("RootsTest");
    }

    private static void promise28RootBits() {
        check.due("rootBits(0)", mill.rootBits(0), 0);
        check.due("rootBits(1)", mill.rootBits(1), Double.doubleToLongBits(1));
        check.due("rootBits(2)", mill.rootBits(2), 4609047870845172685L);
        check.due("rootBits(3)", mill.rootBits(3), Double.doubleToLongBits(Math.sqrt(3)));
        check.due("rootBits(4)", mill.rootBits(4), Double.doubleToLongBits(2));
        check.due("rootBits(3969)", mill.rootBits(3969), Double.doubleToLongBits(63));
        check.due("rootBits(4095)", mill.rootBits(4095), 4634202916985495551L);
        for (int whole : BEYOND) {
            check.refused("rootBits(" + whole + ")", NO_ARGUMENT, () -> mill.rootBits(whole));
        }
    }

    private static void promise29IsRoot() {
        for (int whole : new int[] {0, 1, 2, 3, 4, 1000, 4094, 4095}) {
            check.due("isRoot(" + whole + ")", mill.isRoot(whole), true);
        }
        for (int whole : BEYOND) {
            check.refused("isRoot(" + whole + ")", NO_ARGUMENT, () -> mill.isRoot(whole) ? 1 : 0);
        }
    }

    private static void promise30RootAt() {
        check.due("rootAt(2, 16)", mill.rootAt(2, 16), 92681);
        check.due("rootAt(2, 0)", mill.rootAt(2, 0), 1);
        check.due("rootAt(2, 1)", mill.rootAt(2, 1), 2);
        check.due("rootAt(4, 16)", mill.rootAt(4, 16), 131072);
        check.due("rootAt(0, 16)", mill.rootAt(0, 16), 0);
        check.due("rootAt(4095, 0)", mill.rootAt(4095, 0), 63);
        check.due("rootAt(4095, 16)", mill.rootAt(4095, 16), 4193791);
        check.refused("rootAt(1, 17)", NO_ARGUMENT, () -> mill.rootAt(1, 17));
        check.refused("rootAt(1, -1)", NO_ARGUMENT, () -> mill.rootAt(1, -1));
        for (int whole : BEYOND) {
            check.refused("rootAt(" + whole + ", 0)", NO_ARGUMENT, () -> mill.rootAt(whole, 0));
        }
    }

    private static void promise31BackBits() {
        check.due("backBits(0)", mill.backBits(0), 0);
        check.due("backBits(1)", mill.backBits(1), Double.doubleToLongBits(1));
        check.due("backBits(2)", mill.backBits(2), 4611686018427387905L);
        check.due("backBits(3)", mill.backBits(3), 4613937818241073151L);
        check.due("backBits(9)", mill.backBits(9), Double.doubleToLongBits(9));
        for (int whole : BEYOND) {
            check.refused("backBits(" + whole + ")", NO_ARGUMENT, () -> mill.backBits(whole));
        }
    }

    private static void promise32IsBack() {
        for (int root = 0; root <= 63; root++) {
            check.due("isBack(" + root * root + ")", mill.isBack(root * root), true);
        }
        check.due("isBack(2)", mill.isBack(2), false);
        check.due("isBack(3)", mill.isBack(3), false);
        check.due("isBack(7)", mill.isBack(7), Math.sqrt(7) * Math.sqrt(7) == 7);
        check.due("isBack(11)", mill.isBack(11), Math.sqrt(11) * Math.sqrt(11) == 11);
        check.due("isBack(4095)", mill.isBack(4095), Math.sqrt(4095) * Math.sqrt(4095) == 4095);
        for (int whole : BEYOND) {
            check.refused("isBack(" + whole + ")", NO_ARGUMENT, () -> mill.isBack(whole) ? 1 : 0);
        }
    }

    private static void promise33SquareBits() {
        Powermill squared = new Powermill();
        check.due("squareBits of 0", squared.squareBits(0), 0);
        squared.put(0, -12);
        check.due("squareBits of -12", squared.squareBits(0), Double.doubleToLongBits(144));
        squared.power(1, 3, 33);
        check.due("squareBits of 3 to the power of 33", squared.squareBits(1),
                Double.doubleToLongBits(5559060566555523.0 * 5559060566555523.0));
        squared.twoTo(2, 400);
        check.due("squareBits at the shift 400", squared.squareBits(2), Double.doubleToLongBits(0x1p800));
        squared.twoTo(2, -400);
        check.due("squareBits at the shift -400", squared.squareBits(2), Double.doubleToLongBits(0x1p-800));
        squared.twoTo(2, 401);
        check.refused("squareBits at the shift 401", NOT_TOLD, () -> squared.squareBits(2));
        squared.twoTo(2, -401);
        check.refused("squareBits at the shift -401", NOT_TOLD, () -> squared.squareBits(2));
        check.refused("squareBits(8)", NO_SLOT, () -> squared.squareBits(8));
        check.refused("squareBits(-1)", NO_SLOT, () -> squared.squareBits(-1));
    }

    /** Every power that a slot can hold, so that all ways of rounding come. */
    private static void promise33NearestOfTwo() {
        for (int base = -63; base <= 64; base++) {
            Powermill squared = new Powermill();
            Model model = new Model();
            for (int exponent = 0; exponent <= 64 && Model.power(base, exponent) != null; exponent++) {
                squared.power(3, base, exponent);
                model.power(3, base, exponent);
                String what = "the square of " + base + " to the power of " + exponent;
                check.due(what, squared.squareBits(3), model.squareBits(3));
                check.due(what + " is its product", squared.isTimes(3), true);
            }
        }
    }

    private static void promise34IsTimes() {
        Powermill squared = new Powermill();
        check.due("isTimes of 0", squared.isTimes(0), true);
        squared.power(0, -7, 18);
        check.due("isTimes of -7 to the power of 18", squared.isTimes(0), true);
        squared.twoTo(0, 400);
        check.due("isTimes at the shift 400", squared.isTimes(0), true);
        squared.twoTo(0, -400);
        check.due("isTimes at the shift -400", squared.isTimes(0), true);
        squared.twoTo(0, 401);
        check.refused("isTimes at the shift 401", NOT_TOLD, () -> squared.isTimes(0) ? 1 : 0);
        squared.twoTo(0, -401);
        check.refused("isTimes at the shift -401", NOT_TOLD, () -> squared.isTimes(0) ? 1 : 0);
        check.refused("isTimes(8)", NO_SLOT, () -> squared.isTimes(8) ? 1 : 0);
        check.refused("isTimes(-1)", NO_SLOT, () -> squared.isTimes(-1) ? 1 : 0);
    }

    private static void promise35IsSound() {
        Powermill sound = new Powermill();
        check.due("isSound() of a new object", sound.isSound(), true);
        sound.twoTo(0, 1000);
        sound.twoTo(1, -1000);
        sound.power(2, -6, 33);
        sound.power(3, 3, 33);
        sound.power(4, -48, 33);
        sound.put(5, -1);
        sound.power(6, 64, 64);
        sound.raise(6, -2, 7);
        check.due("isSound() of full slots", sound.isSound(), true);
        for (int exponent = -1000; exponent <= 1000; exponent++) {
            Powermill each = new Powermill();
            each.twoTo(4, exponent);
            check.due("isSound() of 2 to the power of " + exponent, each.isSound(), true);
        }
    }
}
