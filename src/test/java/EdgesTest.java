import java.lang.reflect.InvocationTargetException;
import java.lang.reflect.Method;
import java.util.Arrays;
import java.util.HashMap;
import java.util.Map;

/** The calls on slots, with every combination of arguments at, beside and far beyond the bounds, against the model. */
public final class EdgesTest {
    private static final int FAR = Integer.MAX_VALUE;
    private static final int FAR_BELOW = Integer.MIN_VALUE;
    private static final int[] SLOTS = {FAR_BELOW, -1, 0, 1, 2, 3, 4, 5, 6, 7, 8, FAR};
    private static final int[] BASES = {FAR_BELOW, -65, -64, -63, -48, -3, -2, -1, 0, 1, 2, 3, 48, 59, 63, 64, 65, FAR};
    private static final int[] EXPONENTS = {FAR_BELOW, -1, 0, 1, 2, 8, 9, 10, 33, 34, 52, 53, 63, 64, 65, FAR};
    private static final int[] TWO_EXPONENTS = {FAR_BELOW, -1001, -1000, -401, -400, -1, 0, 1, 400, 1000, 1001, FAR};
    private static final int[] RAISING = {FAR_BELOW, -65, -64, -20, -19, -2, -1, 0, 1, 2, 3, 19, 20, 63, 64, 65, FAR};
    private static final int[] DIGIT_BASES = {FAR_BELOW, -64, -2, -1, 0, 1, 2, 3, 10, 63, 64, 65, FAR};
    private static final int[] PLACES = {FAR_BELOW, -1, 0, 1, 2, 8, 9, 33, 34, 52, 53, 64, FAR};
    private static final int[] DEGREES = {FAR_BELOW, -1, 0, 1, 2, 3, 8, 9, 33, 34, 52, 53, 54, FAR};

    private static final String[] NAMES = {"put", "put", "twoTo", "twoTo", "twoTo", "twoTo", "power", "power", "raise",
        "copy", "put", "put", "undo", "undo", "power", "twoTo", "twoTo"};
    private static final int[][] ARGUMENTS = {{1, 12}, {2, -1}, {3, -2}, {4, 52}, {5, 53}, {6, -1000}, {7, -6, 33},
        {0, -3, 33}, {4, -19, 2}, {7, 1}, {5, 64}, {6, 0}, {}, {}, {3, 59, 9}, {6, 400}, {7, 1000}};

    private final Check check = new Check();
    private final Map<String, Method> methods = new HashMap<>();
    /** How many of the calls above are made on an object ahead of the one that is tried. */
    private int steps;

    public static void main(String[] args) {
        EdgesTest test = new EdgesTest();
        // None kept, three, just eight, eight and some forgotten, eight after two were undone.
        for (int steps : new int[] {0, 3, 8, 10, 13, 17}) {
            test.steps = steps;
            test.changes();
            test.raising();
            test.asks();
            test.digitsAndRoots();
        }
        test.check.finish("EdgesTest");
    }

    private Method method(Object on, String name, int parameters) {
        return methods.computeIfAbsent(on.getClass() + name, key -> {
            Class<?>[] types = new Class<?>[parameters];
            Arrays.fill(types, int.class);
            try {
                return on.getClass().getDeclaredMethod(name, types);
            } catch (NoSuchMethodException e) {
                throw new AssertionError(e);
            }
        });
    }

    private String outcome(Object on, String name, int[] arguments) {
        try {
            Object[] boxed = Arrays.stream(arguments).boxed().toArray();
            return "answers " + method(on, name, arguments.length).invoke(on, boxed);
        } catch (InvocationTargetException e) {
            return "throws " + e.getCause().getClass().getSimpleName();
        } catch (IllegalAccessException e) {
            throw new AssertionError(e);
        }
    }

    /** The program and the model answer or throw the same, and hold and keep the same after that. */
    private void same(String name, int... arguments) {
        Powermill mill = new Powermill();
        Model model = new Model();
        for (int step = 0; step < steps; step++) {
            outcome(mill, NAMES[step], ARGUMENTS[step]);
            outcome(model, NAMES[step], ARGUMENTS[step]);
        }
        String what = name + Arrays.toString(arguments) + " after " + steps + " calls";
        check.due(what, outcome(mill, name, arguments), outcome(model, name, arguments));
        check.due(what + ": what is held", Trial.state(mill), model.state());
    }

    private void changes() {
        same("undo");
        same("kept");
        for (int slot : SLOTS) {
            for (int base : BASES) {
                same("put", slot, base);
                for (int exponent : EXPONENTS) {
                    same("power", slot, base, exponent);
                }
            }
            for (int exponent : TWO_EXPONENTS) {
                same("twoTo", slot, exponent);
            }
            for (int to : SLOTS) {
                same("copy", slot, to);
            }
        }
    }

    private void raising() {
        for (int slot : SLOTS) {
            for (int exponent : RAISING) {
                for (int to : SLOTS) {
                    same("raise", slot, exponent, to);
                }
            }
        }
    }

    private void asks() {
        same("isSound");
        String[] ofOneSlot = {"sign", "odd", "shift", "bits", "isWhole", "whole", "rank", "at", "squareBits",
            "isTimes"};
        for (int slot : SLOTS) {
            for (String name : ofOneSlot) {
                same(name, slot);
            }
            for (int other : SLOTS) {
                same("compare", slot, other);
            }
        }
    }

    private void digitsAndRoots() {
        for (int slot : SLOTS) {
            for (int base : DIGIT_BASES) {
                same("log", base, slot);
                same("digits", base, slot);
                for (int place : PLACES) {
                    same("digit", base, slot, place);
                }
            }
            for (int degree : DEGREES) {
                same("root", degree, slot);
            }
        }
    }
}
