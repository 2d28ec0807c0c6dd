/** Promises 22 to 27: sums and rests, and the laws of powers. */
public final class PowersTest {
    private static final Class<IllegalArgumentException> NO_ARGUMENT = IllegalArgumentException.class;
    private static final Class<UnsupportedOperationException> NOT_TOLD = UnsupportedOperationException.class;

    private static final Check check = new Check();
    private static final Powermill mill = new Powermill();

    public static void main(String[] args) {
        promise22Sum();
        promise23Rest();
        promise24IsFermat();
        promise25IsChain();
        promise26AddsUp();
        promise27IsNested();
        asksChangeNothing();
        check.finish("PowersTest");
    }

    private static void promise22Sum() {
        check.due("sum(3, 5)", mill.sum(3, 5), 121);
        check.due("sum(10, 4)", mill.sum(10, 4), 1111);
        check.due("sum(-2, 3)", mill.sum(-2, 3), 3);
        check.due("sum(0, 0)", mill.sum(0, 0), 0);
        check.due("sum(0, 1)", mill.sum(0, 1), 1);
        check.due("sum(0, 64)", mill.sum(0, 64), 1);
        check.due("sum(1, 64)", mill.sum(1, 64), 64);
        check.due("sum(-1, 64)", mill.sum(-1, 64), 0);
        check.due("sum(-1, 63)", mill.sum(-1, 63), 1);
        check.due("sum(64, 0)", mill.sum(64, 0), 0);
        check.due("sum(2, 52)", mill.sum(2, 52), (1L << 52) - 1);
        check.due("sum(3, 33)", mill.sum(3, 33), 2779530283277761L);
        check.refused("sum(2, 53)", NOT_TOLD, () -> mill.sum(2, 53));
        check.refused("sum(-2, 53)", NOT_TOLD, () -> mill.sum(-2, 53));
        check.refused("sum(3, 34)", NOT_TOLD, () -> mill.sum(3, 34));
        check.refused("sum(64, 64)", NOT_TOLD, () -> mill.sum(64, 64));
        check.refused("sum(65, 1)", NO_ARGUMENT, () -> mill.sum(65, 1));
        check.refused("sum(-65, 1)", NO_ARGUMENT, () -> mill.sum(-65, 1));
        check.refused("sum(1, 65)", NO_ARGUMENT, () -> mill.sum(1, 65));
        check.refused("sum(1, -1)", NO_ARGUMENT, () -> mill.sum(1, -1));
        check.refused("sum(2, 65): the range first", NO_ARGUMENT, () -> mill.sum(2, 65));
    }

    private static void promise23Rest() {
        check.due("rest(7, 5, 10)", mill.rest(7, 5, 10), 7);
        check.due("rest(-7, 5, 10)", mill.rest(-7, 5, 10), 3);
        check.due("rest(-7, 5, 7)", mill.rest(-7, 5, 7), 0);
        check.due("rest(-7, 5, 1)", mill.rest(-7, 5, 1), 0);
        check.due("rest(0, 0, 2)", mill.rest(0, 0, 2), 1);
        check.due("rest(0, 5, 2)", mill.rest(0, 5, 2), 0);
        check.due("rest(-1, 63, 1000)", mill.rest(-1, 63, 1000), 999);
        check.due("rest(2, 52, 1000)", mill.rest(2, 52, 1000), 496);
        check.refused("rest(2, 53, 3)", NOT_TOLD, () -> mill.rest(2, 53, 3));
        check.refused("rest(-3, 34, 3)", NOT_TOLD, () -> mill.rest(-3, 34, 3));
        check.refused("rest(2, 5, 0)", NO_ARGUMENT, () -> mill.rest(2, 5, 0));
        check.refused("rest(2, 5, -1)", NO_ARGUMENT, () -> mill.rest(2, 5, -1));
        check.refused("rest(2, 5, 1001)", NO_ARGUMENT, () -> mill.rest(2, 5, 1001));
        check.refused("rest(65, 1, 5)", NO_ARGUMENT, () -> mill.rest(65, 1, 5));
        check.refused("rest(-65, 1, 5)", NO_ARGUMENT, () -> mill.rest(-65, 1, 5));
        check.refused("rest(2, 65, 5)", NO_ARGUMENT, () -> mill.rest(2, 65, 5));
        check.refused("rest(2, -1, 5)", NO_ARGUMENT, () -> mill.rest(2, -1, 5));
        check.refused("rest(2, 53, 0): the range first", NO_ARGUMENT, () -> mill.rest(2, 53, 0));
    }

    private static void promise24IsFermat() {
        for (int prime : new int[] {2, 3, 5, 7, 11, 13}) {
            for (int base = -8; base <= 8; base++) {
                check.due("isFermat(" + base + ", " + prime + ")", mill.isFermat(base, prime), true);
            }
        }
        check.due("isFermat(2, 9)", mill.isFermat(2, 9), false);
        check.due("isFermat(2, 4)", mill.isFermat(2, 4), false);
        check.due("isFermat(-3, 1)", mill.isFermat(-3, 1), true);
        check.due("isFermat(-1, 4)", mill.isFermat(-1, 4), false);
        check.due("isFermat(0, 64)", mill.isFermat(0, 64), true);
        check.due("isFermat(1, 64)", mill.isFermat(1, 64), true);
        check.refused("isFermat(2, 64)", NOT_TOLD, () -> mill.isFermat(2, 64) ? 1 : 0);
        check.refused("isFermat(2, 53)", NOT_TOLD, () -> mill.isFermat(2, 53) ? 1 : 0);
        check.refused("isFermat(2, 0)", NO_ARGUMENT, () -> mill.isFermat(2, 0) ? 1 : 0);
        check.refused("isFermat(2, -1)", NO_ARGUMENT, () -> mill.isFermat(2, -1) ? 1 : 0);
        check.refused("isFermat(2, 65)", NO_ARGUMENT, () -> mill.isFermat(2, 65) ? 1 : 0);
        check.refused("isFermat(65, 2)", NO_ARGUMENT, () -> mill.isFermat(65, 2) ? 1 : 0);
        check.refused("isFermat(-65, 2)", NO_ARGUMENT, () -> mill.isFermat(-65, 2) ? 1 : 0);
    }

    private static void promise25IsChain() {
        check.due("isChain(64, 64)", mill.isChain(64, 64), true);
        check.due("isChain(-10, 22)", mill.isChain(-10, 22), true);
        check.due("isChain(-3, 33)", mill.isChain(-3, 33), true);
        check.due("isChain(0, 0)", mill.isChain(0, 0), true);
        check.due("isChain(0, 64)", mill.isChain(0, 64), true);
        check.refused("isChain(63, 9)", NOT_TOLD, () -> mill.isChain(63, 9) ? 1 : 0);
        check.refused("isChain(3, 34)", NOT_TOLD, () -> mill.isChain(3, 34) ? 1 : 0);
        check.refused("isChain(65, 1)", NO_ARGUMENT, () -> mill.isChain(65, 1) ? 1 : 0);
        check.refused("isChain(-65, 1)", NO_ARGUMENT, () -> mill.isChain(-65, 1) ? 1 : 0);
        check.refused("isChain(1, 65)", NO_ARGUMENT, () -> mill.isChain(1, 65) ? 1 : 0);
        check.refused("isChain(1, -1)", NO_ARGUMENT, () -> mill.isChain(1, -1) ? 1 : 0);
    }

    private static void promise26AddsUp() {
        check.due("addsUp(5, 11, 11)", mill.addsUp(5, 11, 11), true);
        check.due("addsUp(-48, 16, 17)", mill.addsUp(-48, 16, 17), true);
        check.due("addsUp(64, 64, 0)", mill.addsUp(64, 64, 0), true);
        check.due("addsUp(64, 0, 64)", mill.addsUp(64, 0, 64), true);
        check.due("addsUp(0, 0, 0)", mill.addsUp(0, 0, 0), true);
        check.due("addsUp(0, 0, 3)", mill.addsUp(0, 0, 3), true);
        check.refused("addsUp(5, 11, 12)", NOT_TOLD, () -> mill.addsUp(5, 11, 12) ? 1 : 0);
        check.refused("addsUp(64, 33, 32)", NO_ARGUMENT, () -> mill.addsUp(64, 33, 32) ? 1 : 0);
        check.refused("addsUp(1, 64, 1)", NO_ARGUMENT, () -> mill.addsUp(1, 64, 1) ? 1 : 0);
        check.refused("addsUp(1, -1, 2)", NO_ARGUMENT, () -> mill.addsUp(1, -1, 2) ? 1 : 0);
        check.refused("addsUp(1, 2, -1)", NO_ARGUMENT, () -> mill.addsUp(1, 2, -1) ? 1 : 0);
        check.refused("addsUp(1, 65, -1)", NO_ARGUMENT, () -> mill.addsUp(1, 65, -1) ? 1 : 0);
        check.refused("addsUp(1, -1, 65)", NO_ARGUMENT, () -> mill.addsUp(1, -1, 65) ? 1 : 0);
        check.refused("addsUp(65, 1, 1)", NO_ARGUMENT, () -> mill.addsUp(65, 1, 1) ? 1 : 0);
        check.refused("addsUp(-65, 1, 1)", NO_ARGUMENT, () -> mill.addsUp(-65, 1, 1) ? 1 : 0);
        check.refused("addsUp of the greatest", NO_ARGUMENT,
                () -> mill.addsUp(1, 1, Integer.MAX_VALUE) ? 1 : 0);
    }

    private static void promise27IsNested() {
        check.due("isNested(2, 8, 8)", mill.isNested(2, 8, 8), true);
        check.due("isNested(-3, 11, 3)", mill.isNested(-3, 11, 3), true);
        check.due("isNested(-64, 1, 64)", mill.isNested(-64, 1, 64), true);
        check.due("isNested(0, 0, 5)", mill.isNested(0, 0, 5), true);
        check.due("isNested(0, 5, 0)", mill.isNested(0, 5, 0), true);
        check.due("isNested(63, 0, 64)", mill.isNested(63, 0, 64), true);
        check.refused("isNested(63, 64, 0)", NOT_TOLD, () -> mill.isNested(63, 64, 0) ? 1 : 0);
        check.refused("isNested(3, 17, 2)", NOT_TOLD, () -> mill.isNested(3, 17, 2) ? 1 : 0);
        check.refused("isNested(1, 13, 5)", NO_ARGUMENT, () -> mill.isNested(1, 13, 5) ? 1 : 0);
        check.refused("isNested(1, 65, 0)", NO_ARGUMENT, () -> mill.isNested(1, 65, 0) ? 1 : 0);
        check.refused("isNested(1, 0, 65)", NO_ARGUMENT, () -> mill.isNested(1, 0, 65) ? 1 : 0);
        check.refused("isNested(1, -1, -1)", NO_ARGUMENT, () -> mill.isNested(1, -1, -1) ? 1 : 0);
        check.refused("isNested(1, 0, -1)", NO_ARGUMENT, () -> mill.isNested(1, 0, -1) ? 1 : 0);
        check.refused("isNested(65, 1, 1)", NO_ARGUMENT, () -> mill.isNested(65, 1, 1) ? 1 : 0);
        check.refused("isNested(-65, 1, 1)", NO_ARGUMENT, () -> mill.isNested(-65, 1, 1) ? 1 : 0);
        check.refused("isNested of wrapping factors", NO_ARGUMENT,
                () -> mill.isNested(1, 64, 1 << 26) ? 1 : 0);
    }

    private static void asksChangeNothing() {
        check.due("kept() after asking", mill.kept(), 0);
        for (int slot = 0; slot < 8; slot++) {
            check.due("sign(" + slot + ") after asking", mill.sign(slot), 0);
        }
    }
}
