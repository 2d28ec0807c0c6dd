import java.util.Arrays;
import java.util.function.Supplier;

/** Single calls on new objects: what each answers or throws, and what it changes. */
final class Trial {
    /** A call, with its answer as a long (a boolean counts 1 or 0). */
    interface Call {
        long answer(Powermill mill);
    }

    /** A call with one argument left open. */
    interface CallOf {
        long answer(Powermill mill, int argument);
    }

    /** A call that tells whether something is so. */
    interface Question {
        boolean answer(Powermill mill);
    }

    static final Class<IndexOutOfBoundsException> INDEX = IndexOutOfBoundsException.class;
    static final Class<IllegalArgumentException> ARGUMENT = IllegalArgumentException.class;
    static final Class<IllegalStateException> STATE = IllegalStateException.class;
    static final Class<ArithmeticException> ARITHMETIC = ArithmeticException.class;
    static final Class<UnsupportedOperationException> UNSUPPORTED = UnsupportedOperationException.class;

    static final int[] NO_SLOTS = {-1, 8, Integer.MIN_VALUE, Integer.MAX_VALUE};

    private static final int SLOTS = 8;
    private static final int KEPT_AT_MOST = 8;

    private final Check check;

    Trial(Check check) {
        this.check = check;
    }

    static Call is(Question question) {
        return mill -> question.answer(mill) ? 1 : 0;
    }

    // ---- objects to try calls on

    static Powermill fresh() {
        return new Powermill();
    }

    /** Slots: 0, 12, -5, a quarter, 2 to the powers of 52, 53 and -1000, -6 to that of 33; 8 of 10 changes kept. */
    static Powermill filled() {
        Powermill mill = new Powermill();
        mill.put(0, 9);
        mill.put(3, -7);
        mill.put(0, 0);
        mill.put(1, 12);
        mill.put(2, -5);
        mill.twoTo(3, -2);
        mill.twoTo(4, 52);
        mill.twoTo(5, 53);
        mill.twoTo(6, -1000);
        mill.power(7, -6, 33);
        return mill;
    }

    /** Slot 0 holds the whole number. */
    static Supplier<Powermill> whole(int whole) {
        return () -> {
            Powermill mill = new Powermill();
            mill.put(0, whole);
            return mill;
        };
    }

    /** Slot 0 holds 2 to the power of the exponent. */
    static Supplier<Powermill> two(int exponent) {
        return () -> {
            Powermill mill = new Powermill();
            mill.twoTo(0, exponent);
            return mill;
        };
    }

    /** Slot 0 holds the power. */
    static Supplier<Powermill> power(int base, int exponent) {
        return () -> {
            Powermill mill = new Powermill();
            mill.power(0, base, exponent);
            return mill;
        };
    }

    /** The slots hold these whole numbers, from slot 0 on; the ones behind them hold 0. */
    static Supplier<Powermill> holding(int... wholes) {
        int[] numbers = Arrays.copyOf(wholes, wholes.length);
        return () -> {
            Powermill mill = new Powermill();
            for (int slot = 0; slot < numbers.length; slot++) {
                mill.put(slot, numbers[slot]);
            }
            return mill;
        };
    }

    // ---- what an object holds

    static String slot(Powermill mill, int slot) {
        return mill.sign(slot) + " " + mill.odd(slot) + " " + mill.shift(slot);
    }

    static String slots(Powermill mill) {
        StringBuilder text = new StringBuilder();
        for (int slot = 0; slot < SLOTS; slot++) {
            text.append(slot(mill, slot)).append(", ");
        }
        return text.toString();
    }

    /** All that an object holds and keeps; it is told by undoing all that is kept. */
    static String state(Powermill mill) {
        StringBuilder text = new StringBuilder(slots(mill));
        int kept = mill.kept();
        text.append("kept ").append(kept);
        for (int undone = 0; undone < kept; undone++) {
            int slot = mill.undo();
            text.append(", ").append(slot).append(" back to ").append(slot(mill, slot));
        }
        text.append(", then ").append(Check.outcome(mill::undo));
        return text.toString();
    }

    // ---- trials

    /** The call answers so, and changes nothing. */
    void asks(String what, Supplier<Powermill> made, long want, Call call) {
        Powermill asked = made.get();
        check.due(what, Check.outcome(() -> call.answer(asked)), "answers " + want);
        check.due(what + " changes nothing", state(asked), state(made.get()));
    }

    /** The call throws just this, and changes nothing. */
    void refuses(String what, Supplier<Powermill> made, Class<? extends RuntimeException> want, Call call) {
        Powermill asked = made.get();
        check.due(what, Check.outcome(() -> call.answer(asked)), "throws " + want.getSimpleName());
        check.due(what + " changes nothing", state(asked), state(made.get()));
    }

    /** The call throws nothing. */
    void passes(String what, Supplier<Powermill> made, Call call) {
        Powermill asked = made.get();
        check.due(what + " is allowed", Check.outcome(() -> call.answer(asked)).startsWith("answers "), true);
    }

    /** These arguments pass, and those are refused. */
    void edges(String what, int[] allowed, int[] beyond, Class<? extends RuntimeException> want,
            Supplier<Powermill> made, CallOf call) {
        for (int argument : allowed) {
            passes(what + " with " + argument, made, mill -> call.answer(mill, argument));
        }
        for (int argument : beyond) {
            refuses(what + " with " + argument, made, want, mill -> call.answer(mill, argument));
        }
    }

    /** The least and the greatest argument pass; the first ones beyond, and the farthest, are refused. */
    void bounds(String what, int least, int greatest, Class<? extends RuntimeException> want,
            Supplier<Powermill> made, CallOf call) {
        int[] beyond = {least - 1, greatest + 1, Integer.MIN_VALUE, Integer.MAX_VALUE};
        edges(what, new int[] {least, greatest}, beyond, want, made, call);
    }

    /** The slots 0 to 7 pass; the ones beside them, and the farthest, are refused. */
    void slotBounds(String what, CallOf call) {
        bounds(what, 0, SLOTS - 1, INDEX, holding(1, 1, 1, 1, 1, 1, 1, 1), call);
    }

    /**
     * The call lets the slot become the number and answers its shift; the other slots stay; the change is kept, also
     * where eight are kept already, and undoing it brings back what the slot held.
     */
    void becomes(String what, Supplier<Powermill> made, int slot, String number, Call call) {
        Powermill changed = made.get();
        String shift = number.substring(number.lastIndexOf(' ') + 1);
        check.due(what, Check.outcome(() -> call.answer(changed)), "answers " + shift);
        Powermill before = made.get();
        for (int other = 0; other < SLOTS; other++) {
            String due = other == slot ? number : slot(before, other);
            check.due(what + ": slot " + other, slot(changed, other), due);
        }
        check.due(what + ": kept()", changed.kept(), Math.min(before.kept() + 1, KEPT_AT_MOST));
        check.due(what + ": undo()", changed.undo(), slot);
        check.due(what + ": the slots after undo()", slots(changed), slots(before));
    }
}
