import java.lang.reflect.Method;
import java.util.NoSuchElementException;
import java.util.Set;
import java.util.TreeSet;
import java.util.function.Supplier;

/** The last paragraph of the section 'Terms': Exceptions. */
final class ExceptionsSentences {
    private static final Class<IndexOutOfBoundsException> INDEX = Trial.INDEX;
    private static final Class<IllegalArgumentException> ARGUMENT = Trial.ARGUMENT;
    private static final Class<IllegalStateException> STATE = Trial.STATE;
    private static final Class<ArithmeticException> ARITHMETIC = Trial.ARITHMETIC;
    private static final Class<UnsupportedOperationException> UNSUPPORTED = Trial.UNSUPPORTED;

    private final Book book;
    private final Trial trial;
    /** Each method of the face with each of its exceptions, as long as no call has been refused so. */
    private final Set<String> notRefusedYet = new TreeSet<>();

    ExceptionsSentences(Book book) {
        this.book = book;
        this.trial = book.trial;
    }

    void tell() {
        book.section("Terms");
        book.says("Exceptions. A method that throws an exception changes nothing.", this::changeNothing);
        book.says("If several exceptions apply, the one that is documented first is thrown.", this::firstOfSeveral);
    }

    // ---- A method that throws an exception changes nothing

    private void changeNothing() {
        for (Method method : Powermill.class.getMethods()) {
            if (method.getDeclaringClass() == Powermill.class) {
                for (Class<?> exception : method.getExceptionTypes()) {
                    notRefusedYet.add(method.getName() + " " + exception.getSimpleName());
                }
            }
        }
        refusedChanges(Trial::filled);
        refusedChanges(ExceptionsSentences::filledAndUndone);
        refusedAsks();
        refusedReckonings();
        book.check.due("methods and exceptions without a refused call", notRefusedYet.toString(), "[]");
    }

    /** As filled, but three changes have been undone and two made anew, so that the kept ones run round. */
    private static Powermill filledAndUndone() {
        Powermill mill = Trial.filled();
        mill.undo();
        mill.undo();
        mill.undo();
        mill.twoTo(5, 53);
        mill.power(7, -6, 33);
        return mill;
    }

    private void refused(String what, Supplier<Powermill> made, Class<? extends RuntimeException> want,
            Trial.Call call) {
        trial.refuses(what, made, want, call);
        notRefusedYet.remove(what.substring(0, what.indexOf('(')) + " " + want.getSimpleName());
    }

    private void refused(String what, Class<? extends RuntimeException> want, Trial.Call call) {
        refused(what, Trial::filled, want, call);
    }

    private void refusedChanges(Supplier<Powermill> made) {
        refused("put(8, 1)", made, INDEX, mill -> mill.put(8, 1));
        refused("put(1, 65)", made, ARGUMENT, mill -> mill.put(1, 65));
        refused("power(8, 2, 3)", made, INDEX, mill -> mill.power(8, 2, 3));
        refused("power(1, 65, 1)", made, ARGUMENT, mill -> mill.power(1, 65, 1));
        refused("power(1, 2, 65)", made, ARGUMENT, mill -> mill.power(1, 2, 65));
        refused("power(1, 3, 34)", made, UNSUPPORTED, mill -> mill.power(1, 3, 34));
        refused("twoTo(8, 1)", made, INDEX, mill -> mill.twoTo(8, 1));
        refused("twoTo(1, 1001)", made, ARGUMENT, mill -> mill.twoTo(1, 1001));
        refused("raise(8, 1, 1)", made, INDEX, mill -> mill.raise(8, 1, 1));
        refused("raise(1, 1, 8)", made, INDEX, mill -> mill.raise(1, 1, 8));
        refused("raise(1, 65, 2)", made, ARGUMENT, mill -> mill.raise(1, 65, 2));
        refused("raise(3, 2, 3) of a quarter", made, STATE, mill -> mill.raise(3, 2, 3));
        refused("raise(0, -1, 2) of 0", made, ARITHMETIC, mill -> mill.raise(0, -1, 2));
        refused("raise(1, -1, 1) of 12", made, UNSUPPORTED, mill -> mill.raise(1, -1, 1));
        refused("raise(4, 20, 2) of 2 to the power of 52", made, UNSUPPORTED, mill -> mill.raise(4, 20, 2));
        refused("copy(8, 1)", made, INDEX, mill -> mill.copy(8, 1));
        refused("copy(1, 8)", made, INDEX, mill -> mill.copy(1, 8));
        refused("undo()", Trial::fresh, NoSuchElementException.class, mill -> mill.undo());
    }

    private void refusedAsks() {
        refused("sign(8)", INDEX, mill -> mill.sign(8));
        refused("odd(8)", INDEX, mill -> mill.odd(8));
        refused("shift(8)", INDEX, mill -> mill.shift(8));
        refused("bits(8)", INDEX, mill -> mill.bits(8));
        refused("isWhole(8)", INDEX, Trial.is(mill -> mill.isWhole(8)));
        refused("whole(8)", INDEX, mill -> mill.whole(8));
        refused("whole(5)", STATE, mill -> mill.whole(5));
        refused("compare(8, 1)", INDEX, mill -> mill.compare(8, 1));
        refused("compare(1, 8)", INDEX, mill -> mill.compare(1, 8));
        refused("rank(8)", INDEX, mill -> mill.rank(8));
        refused("at(8)", INDEX, mill -> mill.at(8));
        refused("log(2, 8)", INDEX, mill -> mill.log(2, 8));
        refused("log(1, 1)", ARGUMENT, mill -> mill.log(1, 1));
        refused("log(2, 5)", STATE, mill -> mill.log(2, 5));
        refused("log(2, 0)", ARITHMETIC, mill -> mill.log(2, 0));
        refused("digits(2, 8)", INDEX, mill -> mill.digits(2, 8));
        refused("digits(1, 1)", ARGUMENT, mill -> mill.digits(1, 1));
        refused("digits(2, 5)", STATE, mill -> mill.digits(2, 5));
        refused("digit(2, 8, 0)", INDEX, mill -> mill.digit(2, 8, 0));
        refused("digit(1, 1, 0)", ARGUMENT, mill -> mill.digit(1, 1, 0));
        refused("digit(2, 1, -1)", ARGUMENT, mill -> mill.digit(2, 1, -1));
        refused("digit(2, 5, 0)", STATE, mill -> mill.digit(2, 5, 0));
        refused("root(2, 8)", INDEX, mill -> mill.root(2, 8));
        refused("root(0, 1)", ARGUMENT, mill -> mill.root(0, 1));
        refused("root(2, 5)", STATE, mill -> mill.root(2, 5));
        refused("root(2, 2)", ARITHMETIC, mill -> mill.root(2, 2));
        refused("squareBits(8)", INDEX, mill -> mill.squareBits(8));
        refused("squareBits(6)", UNSUPPORTED, mill -> mill.squareBits(6));
        refused("isTimes(8)", INDEX, Trial.is(mill -> mill.isTimes(8)));
        refused("isTimes(6)", UNSUPPORTED, Trial.is(mill -> mill.isTimes(6)));
    }

    private void refusedReckonings() {
        refused("sum(65, 1)", ARGUMENT, mill -> mill.sum(65, 1));
        refused("sum(2, 53)", UNSUPPORTED, mill -> mill.sum(2, 53));
        refused("rest(2, 2, 0)", ARGUMENT, mill -> mill.rest(2, 2, 0));
        refused("rest(2, 53, 3)", UNSUPPORTED, mill -> mill.rest(2, 53, 3));
        refused("isFermat(2, 0)", ARGUMENT, Trial.is(mill -> mill.isFermat(2, 0)));
        refused("isFermat(2, 53)", UNSUPPORTED, Trial.is(mill -> mill.isFermat(2, 53)));
        refused("isChain(65, 1)", ARGUMENT, Trial.is(mill -> mill.isChain(65, 1)));
        refused("isChain(3, 34)", UNSUPPORTED, Trial.is(mill -> mill.isChain(3, 34)));
        refused("addsUp(2, 32, 33)", ARGUMENT, Trial.is(mill -> mill.addsUp(2, 32, 33)));
        refused("addsUp(3, 17, 17)", UNSUPPORTED, Trial.is(mill -> mill.addsUp(3, 17, 17)));
        refused("isNested(2, 13, 5)", ARGUMENT, Trial.is(mill -> mill.isNested(2, 13, 5)));
        refused("isNested(3, 17, 2)", UNSUPPORTED, Trial.is(mill -> mill.isNested(3, 17, 2)));
        refused("rootBits(4096)", ARGUMENT, mill -> mill.rootBits(4096));
        refused("isRoot(4096)", ARGUMENT, Trial.is(mill -> mill.isRoot(4096)));
        refused("rootAt(2, 17)", ARGUMENT, mill -> mill.rootAt(2, 17));
        refused("backBits(4096)", ARGUMENT, mill -> mill.backBits(4096));
        refused("isBack(4096)", ARGUMENT, Trial.is(mill -> mill.isBack(4096)));
    }

    // ---- If several exceptions apply, the one that is documented first is thrown

    private void firstOfSeveral() {
        severalOfPutPowerTwoTo();
        severalOfRaise();
        severalOfLog();
        severalOfDigits();
        severalOfRoot();
        severalOfPowers();
    }

    private void first(String what, Class<? extends RuntimeException> want, Trial.Call call) {
        trial.refuses(what, Trial::filled, want, call);
    }

    private void severalOfPutPowerTwoTo() {
        for (int slot : Trial.NO_SLOTS) {
            first("put: no slot, too great", INDEX, mill -> mill.put(slot, 65));
            first("put: no slot, too small", INDEX, mill -> mill.put(slot, -65));
            first("power: no slot, the base", INDEX, mill -> mill.power(slot, 65, 1));
            first("power: no slot, the exponent", INDEX, mill -> mill.power(slot, 2, -1));
            first("power: no slot, not told", INDEX, mill -> mill.power(slot, 3, 34));
            first("power: no slot, the exponent, not told", INDEX, mill -> mill.power(slot, 3, 65));
            first("twoTo: no slot, too great", INDEX, mill -> mill.twoTo(slot, 1001));
            first("twoTo: no slot, too small", INDEX, mill -> mill.twoTo(slot, -1001));
        }
        first("power: the base, not told", ARGUMENT, mill -> mill.power(1, 65, 64));
        first("power: the base below 0, not told", ARGUMENT, mill -> mill.power(1, -65, 64));
        first("power: the exponent, not told", ARGUMENT, mill -> mill.power(1, 3, 65));
        first("power: the exponent below 0, not told", ARGUMENT, mill -> mill.power(1, 3, -1));
        first("power: 0 by an exponent below 0", ARGUMENT, mill -> mill.power(1, 0, -1));
    }

    private void severalOfRaise() {
        for (int slot : Trial.NO_SLOTS) {
            first("raise: no slot, the exponent", INDEX, mill -> mill.raise(slot, 65, 1));
            first("raise: no slot to become it, the exponent", INDEX, mill -> mill.raise(1, 65, slot));
            first("raise: no slot to become it, not whole", INDEX, mill -> mill.raise(3, 1, slot));
            first("raise: no slot to become it, 0 below 0", INDEX, mill -> mill.raise(0, -1, slot));
            first("raise: no slot to become it, not told", INDEX, mill -> mill.raise(1, 64, slot));
        }
        for (int exponent : new int[] {65, -65, Integer.MAX_VALUE, Integer.MIN_VALUE}) {
            first("raise: the exponent, not whole", ARGUMENT, mill -> mill.raise(3, exponent, 1));
            first("raise: the exponent, not whole, not told", ARGUMENT, mill -> mill.raise(6, exponent, 1));
            first("raise: the exponent, 0", ARGUMENT, mill -> mill.raise(0, exponent, 1));
            first("raise: the exponent, not told", ARGUMENT, mill -> mill.raise(1, exponent, 1));
        }
        first("raise: not whole, not told", STATE, mill -> mill.raise(6, 2, 1));
        first("raise: not whole, not told below 0", STATE, mill -> mill.raise(6, -2, 1));
        first("raise: 0 below 0, not told", ARITHMETIC, mill -> mill.raise(0, -1, 1));
        first("raise: 0 by -64, not told", ARITHMETIC, mill -> mill.raise(0, -64, 1));
    }

    private void severalOfLog() {
        for (int slot : Trial.NO_SLOTS) {
            first("log: no slot, the base", INDEX, mill -> mill.log(1, slot));
            first("log: no slot, the base above", INDEX, mill -> mill.log(65, slot));
        }
        for (int base : new int[] {1, 65, 0, -1, Integer.MIN_VALUE, Integer.MAX_VALUE}) {
            first("log: the base, not near", ARGUMENT, mill -> mill.log(base, 5));
            first("log: the base, not whole", ARGUMENT, mill -> mill.log(base, 3));
            first("log: the base, less than 1", ARGUMENT, mill -> mill.log(base, 0));
            first("log: the base, below 0", ARGUMENT, mill -> mill.log(base, 2));
            first("log: the base, not near, below 0", ARGUMENT, mill -> mill.log(base, 7));
        }
        first("log: not near, below 0", STATE, mill -> mill.log(2, 7));
        first("log: not whole, less than 1", STATE, mill -> mill.log(2, 3));
        first("log: far from whole, less than 1", STATE, mill -> mill.log(2, 6));
    }

    private void severalOfDigits() {
        for (int slot : Trial.NO_SLOTS) {
            first("digits: no slot, the base", INDEX, mill -> mill.digits(1, slot));
            first("digit: no slot, the base", INDEX, mill -> mill.digit(65, slot, 0));
            first("digit: no slot, the place", INDEX, mill -> mill.digit(2, slot, -1));
        }
        for (int base : new int[] {1, 65, 0, -1, Integer.MIN_VALUE, Integer.MAX_VALUE}) {
            first("digits: the base, not near", ARGUMENT, mill -> mill.digits(base, 5));
            first("digits: the base, not whole", ARGUMENT, mill -> mill.digits(base, 3));
            first("digit: the base, not near", ARGUMENT, mill -> mill.digit(base, 5, 0));
            first("digit: the base, not whole", ARGUMENT, mill -> mill.digit(base, 3, 0));
        }
        first("digit: the place, not near", ARGUMENT, mill -> mill.digit(2, 5, -1));
        first("digit: the place, not whole", ARGUMENT, mill -> mill.digit(2, 3, Integer.MIN_VALUE));
    }

    private void severalOfRoot() {
        for (int slot : Trial.NO_SLOTS) {
            first("root: no slot, the degree", INDEX, mill -> mill.root(0, slot));
            first("root: no slot, the degree above", INDEX, mill -> mill.root(54, slot));
        }
        for (int degree : new int[] {0, 54, -1, Integer.MIN_VALUE, Integer.MAX_VALUE}) {
            first("root: the degree, not near", ARGUMENT, mill -> mill.root(degree, 5));
            first("root: the degree, not whole", ARGUMENT, mill -> mill.root(degree, 3));
            first("root: the degree, below 0", ARGUMENT, mill -> mill.root(degree, 2));
            first("root: the degree, not near, below 0", ARGUMENT, mill -> mill.root(degree, 7));
        }
        first("root: not near, below 0", STATE, mill -> mill.root(3, 7));
        trial.refuses("root: not whole, below 0", () -> {
            Powermill mill = Trial.whole(-2).get();
            mill.raise(0, -1, 0);
            return mill;
        }, STATE, mill -> mill.root(3, 0));
    }

    private void severalOfPowers() {
        first("sum: the base, not near", ARGUMENT, mill -> mill.sum(65, 64));
        first("sum: many, not near", ARGUMENT, mill -> mill.sum(2, 65));
        first("rest: the base, not near", ARGUMENT, mill -> mill.rest(-65, 64, 5));
        first("rest: the exponent, not near", ARGUMENT, mill -> mill.rest(2, 65, 5));
        first("rest: the divisor, not near", ARGUMENT, mill -> mill.rest(2, 53, 0));
        first("rest: the divisor above, not near", ARGUMENT, mill -> mill.rest(2, 53, 1001));
        first("isFermat: the base, not near", ARGUMENT, Trial.is(mill -> mill.isFermat(65, 64)));
        first("isFermat: the number, not near", ARGUMENT, Trial.is(mill -> mill.isFermat(2, 65)));
        first("isChain: the base, not told", ARGUMENT, Trial.is(mill -> mill.isChain(65, 64)));
        first("isChain: the exponent, not told", ARGUMENT, Trial.is(mill -> mill.isChain(3, 65)));
        first("addsUp: the base, not told", ARGUMENT, Trial.is(mill -> mill.addsUp(-65, 32, 32)));
        first("addsUp: an exponent, not told", ARGUMENT, Trial.is(mill -> mill.addsUp(3, 65, -1)));
        first("addsUp: the other, not told", ARGUMENT, Trial.is(mill -> mill.addsUp(3, -1, 65)));
        first("addsUp: both together, not told", ARGUMENT, Trial.is(mill -> mill.addsUp(3, 33, 32)));
        first("isNested: the base, not told", ARGUMENT, Trial.is(mill -> mill.isNested(65, 8, 8)));
        first("isNested: an exponent, not told", ARGUMENT, Trial.is(mill -> mill.isNested(3, 65, 0)));
        first("isNested: the other, not told", ARGUMENT, Trial.is(mill -> mill.isNested(3, 64, -1)));
        first("isNested: their product, not told", ARGUMENT, Trial.is(mill -> mill.isNested(3, 13, 5)));
        first("isNested: their product, the first not told", ARGUMENT, Trial.is(mill -> mill.isNested(3, 34, 2)));
    }
}
