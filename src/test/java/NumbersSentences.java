import java.util.NoSuchElementException;
import java.util.function.Supplier;

/** Promises 1 to 8, sentence by sentence. */
final class NumbersSentences {
    private final Book book;
    private final Check check;
    private final Trial trial;

    NumbersSentences(Book book) {
        this.book = book;
        this.check = book.check;
        this.trial = book.trial;
    }

    void tell() {
        promise1();
        promise2();
        promise3();
        promise4();
        promise5();
        promise6();
        promise7();
        promise8();
    }

    private void promise1() {
        book.section("Promise 1: A new object");
        book.says("Creates eight slots that hold 0; nothing is kept.", () -> {
            for (int slot = 0; slot < 8; slot++) {
                int at = slot;
                check.due("slot " + slot + " of a new object", Trial.slot(Trial.fresh(), slot), "0 0 0");
                trial.asks("whole(" + slot + ") of a new object", Trial::fresh, 0, mill -> mill.whole(at));
            }
            trial.refuses("sign(-1) of a new object", Trial::fresh, Trial.INDEX, mill -> mill.sign(-1));
            trial.refuses("sign(8) of a new object", Trial::fresh, Trial.INDEX, mill -> mill.sign(8));
            trial.asks("kept() of a new object", Trial::fresh, 0, mill -> mill.kept());
            trial.refuses("undo() of a new object", Trial::fresh, NoSuchElementException.class, mill -> mill.undo());
            Powermill one = new Powermill();
            Powermill other = new Powermill();
            one.put(0, 5);
            check.due("a new object beside a changed one", Trial.state(other), Trial.state(new Powermill()));
        });
    }

    private void promise2() {
        book.section("Promise 2: put");
        book.says("Lets a slot become a whole number.", () -> {
            for (int whole = -64; whole <= 64; whole++) {
                int each = whole;
                String number = Trial.slot(Trial.whole(whole).get(), 0);
                check.due("whole after put(0, " + whole + ")", Trial.whole(whole).get().whole(0), whole);
                for (int slot : new int[] {0, 3, 7}) {
                    trial.becomes("put(" + slot + ", " + whole + ")", Trial::filled, slot, number,
                            mill -> mill.put(slot, each));
                }
            }
        });
        book.says("Returns its shift.", () -> {
            int[][] due = {{0, 0}, {1, 0}, {-1, 0}, {2, 1}, {-2, 1}, {3, 0}, {12, 2}, {-24, 3}, {48, 4}, {32, 5},
                {-32, 5}, {63, 0}, {-63, 0}, {64, 6}, {-64, 6}};
            for (int[] each : due) {
                check.due("put(0, " + each[0] + ")", Trial.fresh().put(0, each[0]), each[1]);
            }
        });
        book.says("Throws IndexOutOfBoundsException if there is no such slot",
                () -> trial.slotBounds("put", (mill, slot) -> mill.put(slot, 1)));
        book.says("Throws IllegalArgumentException if it is not from -64 to 64", () -> {
            trial.bounds("put", -64, 64, Trial.ARGUMENT, Trial::fresh, (mill, whole) -> mill.put(0, whole));
            trial.bounds("put", -64, 64, Trial.ARGUMENT, Trial::filled, (mill, whole) -> mill.put(7, whole));
        });
    }

    private void promise3() {
        book.section("Promise 3: power");
        book.says("Lets a slot become a power.", () -> {
            for (int slot = 0; slot < 8; slot++) {
                int at = slot;
                trial.becomes("power(" + slot + ", -6, 33)", Trial::filled, slot, "-1 5559060566555523 33",
                        mill -> mill.power(at, -6, 33));
            }
            becomesPower(-6, 32, "1 1853020188851841 32");
            becomesPower(64, 64, "1 1 384");
            becomesPower(-64, 63, "-1 1 378");
            becomesPower(63, 8, "1 248155780267521 0");
            becomesPower(0, 0, "1 1 0");
            becomesPower(0, 1, "0 0 0");
            becomesPower(0, 64, "0 0 0");
            becomesPower(-5, 0, "1 1 0");
            becomesPower(-5, 1, "-1 5 0");
            becomesPower(1, 64, "1 1 0");
            becomesPower(-1, 63, "-1 1 0");
            becomesPower(-1, 64, "1 1 0");
        });
        book.says("Returns its shift.", () -> {
            check.due("power(0, 12, 5)", Trial.fresh().power(0, 12, 5), 10);
            check.due("power(0, -64, 64)", Trial.fresh().power(0, -64, 64), 384);
            check.due("power(0, 48, 33)", Trial.fresh().power(0, 48, 33), 132);
            check.due("power(0, 64, 0)", Trial.fresh().power(0, 64, 0), 0);
            check.due("power(0, 0, 64)", Trial.fresh().power(0, 0, 64), 0);
        });
        book.says("Throws IndexOutOfBoundsException if there is no such slot",
                () -> trial.slotBounds("power", (mill, slot) -> mill.power(slot, 2, 3)));
        book.says("Throws IllegalArgumentException if the base is not from -64 to 64, or the exponent not from 0 to 64",
                () -> {
                    for (int exponent : new int[] {0, 1, 8}) {
                        trial.bounds("power, the base, by " + exponent, -64, 64, Trial.ARGUMENT, Trial::filled,
                                (mill, base) -> mill.power(1, base, exponent));
                    }
                    for (int base : new int[] {-64, -2, -1, 0, 1, 2, 64}) {
                        trial.bounds("power of " + base + ", the exponent", 0, 64, Trial.ARGUMENT, Trial::filled,
                                (mill, exponent) -> mill.power(1, base, exponent));
                    }
                });
        book.says("Throws UnsupportedOperationException if it is not told", () -> {
            int[][] lastTold = {{3, 33}, {5, 22}, {6, 33}, {7, 18}, {9, 16}, {10, 22}, {11, 15}, {12, 33}, {13, 14},
                {15, 13}, {17, 12}, {27, 11}, {30, 13}, {39, 10}, {48, 33}, {49, 9}, {59, 9}, {60, 13}, {61, 8},
                {62, 10}, {63, 8}};
            for (int[] told : lastTold) {
                int[] allowed = {0, 1, told[1] - 1, told[1]};
                int[] beyond = {told[1] + 1, told[1] + 2, 63, 64};
                trial.edges("power of " + told[0], allowed, beyond, Trial.UNSUPPORTED, Trial::filled,
                        (mill, exponent) -> mill.power(2, told[0], exponent));
                trial.edges("power of -" + told[0], allowed, beyond, Trial.UNSUPPORTED, Trial::filled,
                        (mill, exponent) -> mill.power(2, -told[0], exponent));
            }
            for (int base : new int[] {-64, -32, -16, -8, -4, -2, -1, 0, 1, 2, 4, 8, 16, 32, 64}) {
                trial.passes("power of " + base + " by 64", Trial::filled, mill -> mill.power(2, base, 64));
            }
        });
    }

    private void becomesPower(int base, int exponent, String number) {
        trial.becomes("power(4, " + base + ", " + exponent + ")", Trial::filled, 4, number,
                mill -> mill.power(4, base, exponent));
    }

    private void promise4() {
        book.section("Promise 4: twoTo");
        book.says("Lets a slot become a power of 2.", () -> {
            for (int exponent = -1000; exponent <= 1000; exponent++) {
                int each = exponent;
                trial.becomes("twoTo(2, " + exponent + ")", Trial::filled, 2, "1 1 " + exponent,
                        mill -> mill.twoTo(2, each));
            }
        });
        book.says("Returns its shift.", () -> {
            for (int exponent : new int[] {-1000, -1, 0, 1, 1000}) {
                check.due("twoTo(7, " + exponent + ")", Trial.fresh().twoTo(7, exponent), exponent);
            }
        });
        book.says("Throws IndexOutOfBoundsException if there is no such slot",
                () -> trial.slotBounds("twoTo", (mill, slot) -> mill.twoTo(slot, 1)));
        book.says("Throws IllegalArgumentException if the exponent is not from -1000 to 1000", () ->
                trial.bounds("twoTo", -1000, 1000, Trial.ARGUMENT, Trial::filled,
                        (mill, exponent) -> mill.twoTo(2, exponent)));
    }

    private void promise5() {
        book.section("Promise 5: raise");
        book.says("Lets a slot become a power of the number of another one, or of its own.", () -> {
            for (int to = 0; to < 8; to++) {
                int at = to;
                trial.becomes("raise(2, 3, " + to + ") of -5", Trial::filled, to, "-1 125 0",
                        mill -> mill.raise(2, 3, at));
                trial.becomes("raise(1, 2, " + to + ") of 12", Trial::filled, to, "1 9 4",
                        mill -> mill.raise(1, 2, at));
            }
            trial.becomes("raise(7, 1, 0)", Trial::filled, 0, "-1 5559060566555523 33", mill -> mill.raise(7, 1, 0));
            trial.becomes("raise(4, -19, 3)", Trial::filled, 3, "1 1 -988", mill -> mill.raise(4, -19, 3));
        });
        book.says("Returns its shift.", () -> {
            check.due("raise(1, 3, 0) of 12", Trial.filled().raise(1, 3, 0), 6);
            check.due("raise(4, 2, 4)", Trial.filled().raise(4, 2, 4), 104);
            check.due("raise(5, -2, 5)", Trial.filled().raise(5, -2, 5), -106);
            check.due("raise(5, 0, 5)", Trial.filled().raise(5, 0, 5), 0);
            check.due("raise(0, 2, 5) of 0", Trial.filled().raise(0, 2, 5), 0);
        });
        book.says("Throws IndexOutOfBoundsException if there is no such slot, for either", () -> {
            trial.slotBounds("raise, the base's slot", (mill, slot) -> mill.raise(slot, 2, 1));
            trial.slotBounds("raise, the slot that becomes it", (mill, slot) -> mill.raise(1, 2, slot));
        });
        book.says("Throws IllegalArgumentException if the exponent is not from -64 to 64", () -> {
            for (int whole : new int[] {-1, 1, 2, -64, 64}) {
                trial.bounds("raise of " + whole, -64, 64, Trial.ARGUMENT, Trial.whole(whole),
                        (mill, exponent) -> mill.raise(0, exponent, 1));
            }
            trial.edges("raise of 0", new int[] {0, 64}, new int[] {-65, 65, Integer.MIN_VALUE, Integer.MAX_VALUE},
                    Trial.ARGUMENT, Trial::fresh, (mill, exponent) -> mill.raise(0, exponent, 1));
        });
        book.says("Throws IllegalStateException if the base is not whole", () -> {
            for (int exponent : new int[] {-1, 0, 1}) {
                for (int shift : new int[] {0, 1, 1000}) {
                    trial.passes("raise of 2 to the power of " + shift, Trial.two(shift),
                            mill -> mill.raise(0, exponent, 4));
                }
                for (int shift : new int[] {-1, -2, -1000}) {
                    trial.refuses("raise of 2 to the power of " + shift, Trial.two(shift), Trial.STATE,
                            mill -> mill.raise(0, exponent, 4));
                }
            }
        });
        book.says("Throws ArithmeticException if the base is 0 and the exponent below 0", () -> {
            trial.edges("raise of 0", new int[] {0, 1, 64}, new int[] {-1, -2, -64}, Trial.ARITHMETIC, Trial::filled,
                    (mill, exponent) -> mill.raise(0, exponent, 2));
            for (int whole : new int[] {-1, 1}) {
                trial.edges("raise of " + whole, new int[] {-1, -64}, new int[] {}, Trial.ARITHMETIC,
                        Trial.whole(whole), (mill, exponent) -> mill.raise(0, exponent, 2));
            }
        });
        book.says("Throws UnsupportedOperationException if it is not told", () -> {
            raiseIsTold("2 to the power of 1000", Trial.two(1000), new int[] {-1, 0, 1}, new int[] {-64, -2, 2, 64});
            raiseIsTold("2 to the power of 52", Trial.two(52), new int[] {-19, 19}, new int[] {-64, -20, 20, 64});
            raiseIsTold("2 to the power of 15", Trial.two(15), new int[] {-64, 64}, new int[] {});
            raiseIsTold("2 to the power of 16", Trial.two(16), new int[] {-62, 62}, new int[] {-64, -63, 63, 64});
            raiseIsTold("12", Trial.whole(12), new int[] {0, 1, 33}, new int[] {-64, -1, 34, 64});
            raiseIsTold("-5", Trial.whole(-5), new int[] {0, 1, 22}, new int[] {-64, -1, 23, 64});
            raiseIsTold("3 to the power of 33", Trial.power(3, 33), new int[] {0, 1}, new int[] {-64, -1, 2, 64});
        });
    }

    private void raiseIsTold(String what, Supplier<Powermill> made, int[] told, int[] untold) {
        for (int to : new int[] {0, 7}) {
            trial.edges("raise of " + what, told, untold, Trial.UNSUPPORTED, made,
                    (mill, exponent) -> mill.raise(0, exponent, to));
        }
    }

    private void promise6() {
        book.section("Promise 6: copy");
        book.says("Lets a slot become what another one holds.", () -> {
            Powermill filled = Trial.filled();
            for (int slot = 0; slot < 8; slot++) {
                for (int to = 0; to < 8; to++) {
                    int from = slot;
                    int at = to;
                    trial.becomes("copy(" + slot + ", " + to + ")", Trial::filled, to, Trial.slot(filled, slot),
                            mill -> mill.copy(from, at));
                }
            }
            Powermill mill = Trial.filled();
            mill.copy(1, 2);
            mill.put(1, 7);
            check.due("the copy after the first one changed", mill.whole(2), 12);
        });
        book.says("Returns its shift.", () -> {
            int[] shifts = {0, 2, 0, -2, 52, 53, -1000, 33};
            for (int slot = 0; slot < 8; slot++) {
                check.due("copy(" + slot + ", 3)", Trial.filled().copy(slot, 3), shifts[slot]);
            }
        });
        book.says("Throws IndexOutOfBoundsException if there is no such slot, for either", () -> {
            trial.slotBounds("copy, the other one", (mill, slot) -> mill.copy(slot, 1));
            trial.slotBounds("copy, the slot", (mill, slot) -> mill.copy(1, slot));
        });
    }

    private void promise7() {
        book.section("Promise 7: undo");
        book.says("Undoes the latest change that is kept: its slot holds again what it held ahead of it; the change is "
                + "kept no more.", this::undoing);
        book.says("Returns the slot.", () -> {
            for (int slot = 0; slot < 8; slot++) {
                Powermill mill = Trial.filled();
                mill.copy(7 - slot, slot);
                check.due("undo() of slot " + slot, mill.undo(), slot);
            }
            Powermill mill = new Powermill();
            mill.put(2, 1);
            mill.raise(2, 2, 6);
            check.due("undo() of raise, the slot that became it", mill.undo(), 6);
            check.due("undo() of put", mill.undo(), 2);
        });
        book.says("Throws NoSuchElementException if nothing is kept", () -> {
            trial.refuses("undo() of a new object", Trial::fresh, NoSuchElementException.class, mill -> mill.undo());
            trial.passes("undo() of one change", Trial.whole(3), mill -> mill.undo());
            trial.refuses("undo() after the one change is undone", () -> {
                Powermill mill = Trial.whole(3).get();
                mill.undo();
                return mill;
            }, NoSuchElementException.class, mill -> mill.undo());
            trial.passes("the eighth undo() of ten changes", () -> undone(7), mill -> mill.undo());
            trial.refuses("the ninth undo() of ten changes", () -> undone(8), NoSuchElementException.class,
                    mill -> mill.undo());
        });
    }

    /** The filled object, some of its ten changes undone. */
    private static Powermill undone(int times) {
        Powermill mill = Trial.filled();
        for (int time = 0; time < times; time++) {
            mill.undo();
        }
        return mill;
    }

    private void undoing() {
        String[] states = new String[8];
        Powermill mill = new Powermill();
        for (int change = 0; change < 8; change++) {
            states[change] = Trial.slots(mill);
            mill.power(change % 2, -6, change + 20);
        }
        for (int change = 7; change >= 0; change--) {
            check.due("undo() of change " + change, mill.undo(), change % 2);
            check.due("the slots after that", Trial.slots(mill), states[change]);
            check.due("kept() after that", mill.kept(), change);
        }
        Powermill again = Trial.filled();
        again.undo();
        again.put(7, 1);
        again.undo();
        check.due("a change undone, one made and undone", Trial.state(again), Trial.state(undone(1)));
        check.due("all undone of ten changes but the forgotten two", Trial.slots(undone(8)),
                Trial.slots(twoChanges()));
    }

    private static Powermill twoChanges() {
        Powermill mill = new Powermill();
        mill.put(0, 9);
        mill.put(3, -7);
        return mill;
    }

    private void promise8() {
        book.section("Promise 8: kept");
        book.says("Returns how many changes are kept.", () -> {
            Powermill mill = new Powermill();
            for (int change = 1; change <= 40; change++) {
                mill.twoTo(5, change % 3);
                check.due("kept() after " + change + " changes", mill.kept(), Math.min(change, 8));
            }
            for (int left = 7; left >= 0; left--) {
                mill.undo();
                check.due("kept() after an undo()", mill.kept(), left);
            }
        });
        book.says("Returns how many.", () -> {
            trial.asks("kept() with nothing kept", Trial::fresh, 0, mill -> mill.kept());
            trial.asks("kept() with one kept", Trial.whole(0), 1, mill -> mill.kept());
            trial.asks("kept() with seven kept", Trial.holding(1, 2, 3, 4, 5, 6, 7), 7, mill -> mill.kept());
            trial.asks("kept() with eight kept", Trial.holding(1, 2, 3, 4, 5, 6, 7, 8), 8, mill -> mill.kept());
            trial.asks("kept() with two forgotten", Trial::filled, 8, mill -> mill.kept());
            trial.asks("kept() with all undone", () -> undone(8), 0, mill -> mill.kept());
        });
    }
}
