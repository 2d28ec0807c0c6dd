/** Long runs of calls on one object, chosen by a fixed rule, each answer against that of the model. */
public final class RunsTest {
    private static final int RUNS = 1500;
    // A round makes at most six calls more, and an object is used for 512 calls.
    private static final int CALLS = 506;

    private final Check check = new Check();
    private long seed = 20261118;
    private int calls;
    private Powermill mill;
    private Model model;

    public static void main(String[] args) {
        RunsTest test = new RunsTest();
        for (int run = 0; run < RUNS; run++) {
            test.mill = new Powermill();
            test.model = new Model();
            test.calls = 0;
            while (test.calls < CALLS) {
                test.call(run);
            }
        }
        test.check.finish("RunsTest");
    }

    private int choose(int least, int greatest) {
        seed = seed * 6364136223846793005L + 1442695040888963407L;
        return least + (int) ((seed >>> 33) % (greatest - least + 1));
    }

    /** Mostly within the bounds, at times at or beyond them. */
    private int choose(int least, int greatest, int... edges) {
        return choose(0, 9) == 0 ? edges[choose(0, edges.length - 1)] : choose(least, greatest);
    }

    private int slot() {
        return choose(0, 40) == 0 ? choose(0, 1) == 0 ? -1 : 8 : choose(0, 7);
    }

    private int base() {
        return choose(-64, 64, -65, -64, -2, -1, 0, 1, 2, 64, 65, Integer.MIN_VALUE, Integer.MAX_VALUE);
    }

    private int digitBase() {
        return choose(2, 64, 1, 2, 64, 65, 0, -2);
    }

    private int exponent() {
        return choose(0, 3) == 0 ? choose(-1, 65) : choose(0, 12);
    }

    /** Half of the calls change slots, half ask. */
    private void call(int run) {
        if (choose(0, 1) == 0) {
            change("run " + run + ": ", slot(), slot());
        } else if (choose(0, 1) == 0) {
            ask("run " + run + ": ", slot(), slot());
        } else {
            reckon("run " + run + ": ", slot(), digitBase());
        }
    }

    private void change(String run, int a, int b) {
        switch (choose(0, 6)) {
            case 0 -> {
                int whole = base();
                same(run + "put(" + a + ", " + whole, () -> mill.put(a, whole), () -> model.put(a, whole));
            }
            case 1 -> {
                int base = base();
                int exponent = exponent();
                same(run + "power(" + a + ", " + base + ", " + exponent, () -> mill.power(a, base, exponent),
                        () -> model.power(a, base, exponent));
            }
            case 2 -> {
                int exponent = choose(-60, 60, -1001, -1000, -401, -400, 400, 401, 500, 1000, 1001);
                same(run + "twoTo(" + a + ", " + exponent, () -> mill.twoTo(a, exponent),
                        () -> model.twoTo(a, exponent));
            }
            case 3, 4 -> {
                int exponent = choose(-4, 4, -65, -64, 10, 33, 63, 64, 65);
                same(run + "raise(" + a + ", " + exponent + ", " + b, () -> mill.raise(a, exponent, b),
                        () -> model.raise(a, exponent, b));
            }
            case 5 -> same(run + "copy(" + a + ", " + b, () -> mill.copy(a, b), () -> model.copy(a, b));
            default -> {
                // Several at a time now and then, so that the kept ones run out.
                for (int times = choose(1, 12, 1) / 3; times >= 0; times--) {
                    same(run + "undo()", () -> mill.undo(), () -> model.undo());
                }
            }
        }
        same(run + "kept()", () -> mill.kept(), () -> model.kept());
    }

    private void ask(String run, int a, int b) {
        same(run + "sign(" + a, () -> mill.sign(a), () -> model.sign(a));
        switch (choose(0, 9)) {
            case 0 -> same(run + "odd(" + a, () -> mill.odd(a), () -> model.odd(a));
            case 1 -> same(run + "shift(" + a, () -> mill.shift(a), () -> model.shift(a));
            case 2 -> same(run + "bits(" + a, () -> mill.bits(a), () -> model.bits(a));
            case 3 -> same(run + "isWhole(" + a, () -> flag(mill.isWhole(a)), () -> flag(model.isWhole(a)));
            case 4 -> same(run + "whole(" + a, () -> mill.whole(a), () -> model.whole(a));
            case 5 -> same(run + "compare(" + a + ", " + b, () -> mill.compare(a, b), () -> model.compare(a, b));
            case 6 -> same(run + "rank(" + a, () -> mill.rank(a), () -> model.rank(a));
            case 7 -> same(run + "squareBits(" + a, () -> mill.squareBits(a), () -> model.squareBits(a));
            case 8 -> same(run + "isTimes(" + a, () -> flag(mill.isTimes(a)), () -> flag(model.isTimes(a)));
            default -> same(run + "isSound()", () -> flag(mill.isSound()), () -> flag(model.isSound()));
        }
    }

    private void reckon(String run, int a, int base) {
        switch (choose(0, 4)) {
            case 0 -> same(run + "log(" + base + ", " + a, () -> mill.log(base, a), () -> model.log(base, a));
            case 1 -> same(run + "digits(" + base + ", " + a, () -> mill.digits(base, a),
                    () -> model.digits(base, a));
            case 2 -> {
                int place = choose(0, 12, -1, 30, 52, 53, Integer.MAX_VALUE, Integer.MIN_VALUE);
                same(run + "digit(" + base + ", " + a + ", " + place, () -> mill.digit(base, a, place),
                        () -> model.digit(base, a, place));
            }
            case 3 -> {
                int degree = choose(1, 12, 0, 1, 2, 33, 52, 53, 54);
                same(run + "root(" + degree + ", " + a, () -> mill.root(degree, a), () -> model.root(degree, a));
            }
            default -> {
                int place = choose(0, 7, -1, 8);
                same(run + "at(" + place, () -> mill.at(place), () -> model.at(place));
            }
        }
    }

    private void same(String what, Check.Call got, Check.Call want) {
        calls++;
        check.same(what, got, want);
    }

    private static long flag(boolean answer) {
        return answer ? 1 : 0;
    }
}
