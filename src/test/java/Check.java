/** Counts and prints what is not as due; a test ends by end(). */
final class Check {
    private int checked = 0;
    private int wrong = 0;

    void due(String what, long got, long want) {
        checked++;
        if (got != want) {
            wrong++;
            System.out.println(what + ": answered " + got + ", due is " + want);
        }
    }

    /** A call that tells "ANSWER": it answered got, and THE ANSWER is upper / lower now. */
    void answer(String what, PlanValues x, int got, long upper, long lower) {
        due(what, got, 1);
        held(what, x, upper, lower);
    }

    /** THE ANSWER is upper / lower. */
    void held(String what, PlanValues x, long upper, long lower) {
        due(what + ", upper", x.upper(), upper);
        due(what + ", lower", x.lower(), lower);
    }

    void that(String what, boolean holds) {
        due(what, holds ? 1 : 0, 1);
    }

    void end(String name) {
        System.out.println(name + ": " + checked + " checked, " + wrong + " not as due");
        if (wrong != 0 || checked == 0) {
            System.exit(1);
        }
    }
}
