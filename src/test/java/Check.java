import java.util.Arrays;

/** Counts and prints what is not as due; a test ends by end(). */
final class Check {
    private int checked = 0;
    private int wrong = 0;
    private String sentence = "";

    /** What is checked from now on stands for this sentence of the document. */
    void about(String words) {
        sentence = "[" + words + "] ";
    }

    void due(String what, long got, long want) {
        checked++;
        if (got != want) {
            wrong++;
            System.out.println(sentence + what + ": answered " + got + ", due is " + want);
        }
    }

    /** A call that tells "ANSWER": it answered got, and THE ANSWER is upper / lower now. */
    void answer(String what, PlanValues x, int got, long upper, long lower) {
        due(what, got, 1);
        held(what, x, upper, lower);
    }

    /** THE ANSWER is upper / lower. */
    void held(String what, PlanValues x, long upper, long lower) {
        due(what + ", upper", x.upper(), upper);
        due(what + ", lower", x.lower(), lower);
    }

    void that(String what, boolean holds) {
        due(what, holds ? 1 : 0, 1);
    }

    /** Two objects are alike in all that can be asked of them; neither is of use afterwards. */
    void alike(String what, PlanValues got, PlanValues want) {
        due(what + ", first place in the readouts that differs", Arrays.mismatch(Readout.of(got), Readout.of(want)), -1);
    }

    void end(String name) {
        System.out.println(name + ": " + checked + " checked, " + wrong + " not as due");
        if (wrong != 0 || checked == 0) {
            System.exit(1);
        }
    }
}
