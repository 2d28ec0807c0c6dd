/** The calls that need no state, over all of their arguments and some beyond, against the model. */
public final class SweepTest {
    public static void main(String[] args) {
        Check check = new Check();
        for (int base = -66; base <= 66; base++) {
            for (int exponent = -2; exponent <= 66; exponent++) {
                powers(check, base, exponent);
            }
        }
        for (int whole = -2; whole <= 4097; whole++) {
            roots(check, whole);
        }
        check.finish("SweepTest");
    }

    private static void powers(Check check, int base, int exponent) {
        String both = "(" + base + ", " + exponent;
        Model model = new Model();
        Powermill mill = check.mill();
        check.same("power" + both, () -> mill.power(0, base, exponent), () -> model.power(0, base, exponent));
        check.same("sum" + both, () -> check.mill().sum(base, exponent), () -> Model.sum(base, exponent));
        check.same("isFermat" + both, () -> flag(check.mill().isFermat(base, exponent)),
                () -> flag(Model.isFermat(base, exponent)));
        check.same("isChain" + both, () -> flag(check.mill().isChain(base, exponent)),
                () -> flag(Model.isChain(base, exponent)));
        for (int other = -2; other <= 66; other++) {
            int second = other;
            check.same("addsUp" + both + ", " + other, () -> flag(check.mill().addsUp(base, exponent, second)),
                    () -> flag(Model.addsUp(base, exponent, second)));
            check.same("isNested" + both + ", " + other, () -> flag(check.mill().isNested(base, exponent, second)),
                    () -> flag(Model.isNested(base, exponent, second)));
        }
        for (int by : new int[] {-1, 0, 1, 2, 3, 4, 7, 10, 64, 97, 512, 999, 1000, 1001}) {
            check.same("rest" + both + ", " + by, () -> check.mill().rest(base, exponent, by),
                    () -> Model.rest(base, exponent, by));
        }
    }

    private static void roots(Check check, int whole) {
        String of = "(" + whole;
        check.same("rootBits" + of, () -> check.mill().rootBits(whole), () -> Model.rootBits(whole));
        check.same("isRoot" + of, () -> flag(check.mill().isRoot(whole)), () -> flag(Model.isRoot(whole)));
        check.same("backBits" + of, () -> check.mill().backBits(whole), () -> Model.backBits(whole));
        check.same("isBack" + of, () -> flag(check.mill().isBack(whole)), () -> flag(Model.isBack(whole)));
        for (int places = -2; places <= 18; places++) {
            int many = places;
            check.same("rootAt" + of + ", " + places, () -> check.mill().rootAt(whole, many),
                    () -> Model.rootAt(whole, many));
        }
    }

    private static long flag(boolean answer) {
        return answer ? 1 : 0;
    }
}
