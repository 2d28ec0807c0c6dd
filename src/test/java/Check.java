/** Counts the answers that are as due, and prints those that are not. */
final class Check {
    /** A call, with its answer as a long (a boolean counts 1 or 0). */
    interface Call {
        long answer();
    }

    private static final int CALLS_AN_OBJECT = 500;

    private int right;
    private int wrong;
    private int callsLeft;
    private Powermill current;

    /** An object for a call whose answer needs no state: a new one before the old one's calls end. */
    Powermill mill() {
        if (callsLeft == 0) {
            current = new Powermill();
            callsLeft = CALLS_AN_OBJECT;
        }
        callsLeft--;
        return current;
    }

    void due(String what, long got, long want) {
        if (got == want) {
            right++;
        } else {
            wrong++;
            if (wrong <= 50) {
                System.out.println(what + " answered " + got + ", due is " + want);
            }
        }
    }

    void due(String what, boolean got, boolean want) {
        due(what, got ? 1 : 0, want ? 1 : 0);
    }

    void due(String what, String got, String want) {
        if (got.equals(want)) {
            right++;
        } else {
            wrong++;
            if (wrong <= 50) {
                System.out.println(what + ": " + got + ", due is " + want);
            }
        }
    }

    int count() {
        return right + wrong;
    }

    int wrong() {
        return wrong;
    }

    /** The call has to throw just this exception, not one of a class below it. */
    void refused(String what, Class<? extends RuntimeException> want, Call call) {
        String outcome = outcome(call);
        if (outcome.equals("throws " + want.getSimpleName())) {
            right++;
        } else {
            wrong++;
            System.out.println(what + ": " + outcome + ", due is throws " + want.getSimpleName());
        }
    }

    /** Both calls have to answer the same, or to throw the same. */
    void same(String what, Call got, Call want) {
        String outcome = outcome(got);
        String due = outcome(want);
        if (outcome.equals(due)) {
            right++;
        } else {
            wrong++;
            if (wrong <= 50) {
                System.out.println(what + ": " + outcome + ", due is " + due);
            }
        }
    }

    static String outcome(Call call) {
        try {
            return "answers " + call.answer();
        } catch (RuntimeException e) {
            return "throws " + e.getClass().getSimpleName();
        }
    }

    void finish(String name) {
        System.out.println(name + ": " + right + " answers as due, " + wrong + " not");
        if (wrong != 0 || right == 0) {
            System.exit(1);
        }
    }
}
