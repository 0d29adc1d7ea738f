/** Each promise of the document by itself: ordinary inputs, edges, and wrong inputs, which change nothing. */
public final class PromisesTest {
    private static final Check CHECK = new Check();
    private static final int[] NO_STATE = {-1, 2, 5, Integer.MIN_VALUE, Integer.MAX_VALUE};
    private static final int[] NO_ACT = {-1, 2, 3, Integer.MIN_VALUE, Integer.MAX_VALUE};

    public static void main(String[] args) {
        promise1NewObject();
        promise2Clear();
        promise3State();
        promise4Act();
        promise5Weight();
        promise5WeightWrong();
        promise6Pay();
        promise7Share();
        promise8Tell();
        promise9Value();
        promise9ValueAgainstTheirs();
        promise10Comes();
        promise11Best();
        promise12Worth();
        promise13Reply();
        promise14Change();
        promise15Within();
        promise15WithinIsNotByOnePlan();
        promise16Run();
        promise16RunIntoCirclesAndEnds();
        promise17Settled();
        promises18And19UpperAndLower();
        promises18And19HeldByRefusedCalls();
        promise20Told();
        promise20ToldPlansWithValues();
        greatestNumbers();
        CHECK.end("PromisesTest");
    }

    /**
     * STATE 0 is OURS: ACT 0 pays 4 and stays, ACT 1 pays 1 and goes to STATE 1. STATE 1 is THEIRS:
     * ACT 0 pays 10 and goes to STATE 0, ACT 1 pays -2 and stays. THE SHARE is 1 / 2.
     */
    private static PlanValues two() {
        PlanValues x = new PlanValues();
        x.state(false);
        x.state(true);
        x.act(0, 4);
        x.act(0, 1);
        x.act(1, 10);
        x.act(1, -2);
        x.weight(0, 0, 0, 1);
        x.weight(0, 1, 1, 1);
        x.weight(1, 0, 0, 1);
        x.weight(1, 1, 1, 1);
        return x;
    }

    private static void promise1NewObject() {
        PlanValues x = new PlanValues();
        for (int what = 0; what < 5; what++) {
            CHECK.due("1: told(" + what + ")", x.told(what), what == 2 || what == 3 ? 1 : 0);
        }
        CHECK.held("1: a new object", x, 0, 1);
        CHECK.due("1: settled", x.settled(), 1);
        x.state(false);
        x.act(0, 8);
        x.weight(0, 0, 0, 1);
        CHECK.answer("1: the share is 1 / 2", x, x.worth(0), 16, 1);
        CHECK.due("1: NONE", PlanValues.NONE, -1);
    }

    private static void promise2Clear() {
        PlanValues x = two();
        x.share(5, 6);
        x.tell(0, 1);
        x.tell(1, 1);
        x.value(0);
        x.clear();
        CHECK.held("2: clear", x, 0, 1);
        CHECK.due("2: no state", x.told(0), 0);
        CHECK.due("2: no act", x.told(1), 0);
        CHECK.due("2: one plan", x.told(2), 1);
        CHECK.due("2: one plan with the values", x.told(3), 1);
        CHECK.due("2: none theirs", x.told(4), 0);
        CHECK.due("2: state 0 is gone", x.value(0), -1);
        CHECK.due("2: a state", x.state(true), 0);
        CHECK.due("2: another", x.state(false), 1);
        CHECK.due("2: it has no act", x.tell(0, 0), -1);
        CHECK.due("2: nor a best one", x.best(0), 0);
        CHECK.answer("2: nor a value", x, x.value(1), 0, 1);
        CHECK.due("2: theirs are counted anew", x.told(4), 1);
        CHECK.due("2: an act", x.act(0, 8), 0);
        CHECK.answer("2: weights are gone", x, x.worth(0), 8, 1);
        CHECK.answer("2: run", x, x.run(0), 0, 1);
        CHECK.due("2: weight was 0", x.weight(0, 0, 0, 6), 0);
        CHECK.answer("2: the share is 1 / 2", x, x.value(0), 16, 1);
        CHECK.due("2: the second act", x.act(0, 9), 1);
        CHECK.due("2: the told act is 0", x.tell(0, 1), 0);
        CHECK.answer("2: its weights are gone", x, x.worth(0), 9, 1);
        new PlanValues().clear();
    }

    private static void promise3State() {
        PlanValues x = new PlanValues();
        for (int state = 0; state < 5; state++) {
            CHECK.due("3: state", x.state(state % 2 == 1), state);
            CHECK.due("3: how many", x.told(0), state + 1);
        }
        CHECK.due("3: no room", x.state(false), -4);
        CHECK.due("3: no room", x.state(true), -4);
        CHECK.due("3: still five", x.told(0), 5);
        CHECK.due("3: still two theirs", x.told(4), 2);
        for (int state = 0; state < 5; state++) {
            x.act(state, 1);
            x.act(state, 2);
            CHECK.answer("3: ours and theirs", x, x.value(state), state % 2 == 1 ? 1 : 2, 1);
        }
    }

    private static void promise4Act() {
        PlanValues x = new PlanValues();
        CHECK.due("4: no state", x.act(0, 0), -1);
        x.state(false);
        x.state(true);
        for (int state : NO_STATE) {
            CHECK.due("4: unknown " + state, x.act(state, 0), -1);
            CHECK.due("4: unknown before outside", x.act(state, 51), -1);
        }
        for (int pay : new int[] {-51, 51, Integer.MIN_VALUE, Integer.MAX_VALUE}) {
            CHECK.due("4: outside " + pay, x.act(0, pay), -2);
        }
        CHECK.due("4: nothing changed", x.told(1), 0);
        CHECK.due("4: act", x.act(0, -50), 0);
        CHECK.due("4: act", x.act(0, 50), 1);
        CHECK.due("4: each state counts for itself", x.act(1, -7), 0);
        CHECK.due("4: act", x.act(0, 0), 2);
        CHECK.due("4: outside before no room", x.act(0, 51), -2);
        CHECK.due("4: no room", x.act(0, 50), -4);
        CHECK.due("4: how many", x.told(1), 4);
        CHECK.answer("4: pay of act 0", x, x.comes(0, 0), -50, 1);
        CHECK.answer("4: pay of act 1", x, x.comes(0, 1), 50, 1);
        CHECK.answer("4: pay of act 2", x, x.comes(0, 2), 0, 1);
        CHECK.answer("4: pay of theirs", x, x.comes(1, 0), -7, 1);
    }

    private static void promise5Weight() {
        PlanValues x = two();
        CHECK.due("5: what it was", x.weight(0, 0, 0, 4), 1);
        CHECK.due("5: what it was", x.weight(0, 0, 1, 2), 0);
        CHECK.due("5: the total would be 7", x.weight(0, 0, 1, 3), -2);
        CHECK.due("5: it is still 2", x.weight(0, 0, 1, 2), 2);
        CHECK.due("5: less", x.weight(0, 0, 0, 0), 4);
        CHECK.due("5: then there is room", x.weight(0, 0, 1, 6), 2);
        CHECK.due("5: the same again at the full total", x.weight(0, 0, 1, 6), 6);
        CHECK.due("5: the total would be 7", x.weight(0, 0, 0, 1), -2);
        CHECK.due("5: acts have weights of their own", x.weight(0, 1, 0, 5), 0);
        CHECK.due("5: states too", x.weight(1, 0, 0, 6), 1);
        x.share(1, 2);
        x.weight(0, 0, 1, 3);
        x.weight(0, 0, 0, 2);
        x.weight(1, 0, 0, 0);
        CHECK.answer("5: they are what the walk goes by", x, x.worth(0), 35, 4);
    }

    private static void promise5WeightWrong() {
        PlanValues x = two();
        for (int state : NO_STATE) {
            CHECK.due("5: unknown state", x.weight(state, 0, 0, 1), -1);
            CHECK.due("5: unknown to", x.weight(0, 0, state, 1), -1);
            CHECK.due("5: unknown before outside", x.weight(0, 0, state, 7), -1);
        }
        for (int act : NO_ACT) {
            CHECK.due("5: unknown act", x.weight(0, act, 0, 1), -1);
            CHECK.due("5: unknown before outside", x.weight(0, act, 0, -1), -1);
        }
        for (int w : new int[] {-1, 7, Integer.MIN_VALUE, Integer.MAX_VALUE}) {
            CHECK.due("5: outside", x.weight(0, 0, 0, w), -2);
        }
        CHECK.due("5: nothing changed", x.weight(0, 0, 0, 1), 1);
        CHECK.answer("5: nothing changed", x, x.worth(0), 8, 1);
        x.state(false);
        CHECK.due("5: a new state has weight 0", x.weight(0, 0, 2, 5), 0);
        CHECK.due("5: a state without acts has none to weigh", x.weight(2, 0, 0, 1), -1);
    }

    private static void promise6Pay() {
        PlanValues x = two();
        CHECK.due("6: what it was, and 50", x.pay(0, 0, -50), 54);
        CHECK.due("6: least", x.pay(0, 0, 50), 0);
        CHECK.due("6: most", x.pay(0, 0, 6), 100);
        CHECK.answer("6: it counts", x, x.worth(0), 12, 1);
        CHECK.due("6: theirs", x.pay(1, 1, 0), 48);
        for (int state : NO_STATE) {
            CHECK.due("6: unknown state", x.pay(state, 0, 1), -1);
            CHECK.due("6: unknown before outside", x.pay(state, 0, 99), -1);
        }
        for (int act : NO_ACT) {
            CHECK.due("6: unknown act", x.pay(0, act, 51), -1);
        }
        for (int v : new int[] {-51, 51, Integer.MIN_VALUE, Integer.MAX_VALUE}) {
            CHECK.due("6: outside", x.pay(0, 0, v), -2);
        }
        CHECK.due("6: nothing changed", x.pay(0, 0, 6), 56);
    }

    private static void promise7Share() {
        PlanValues x = two();
        for (int d = 1; d <= 6; d++) {
            for (int u = 0; u < d; u++) {
                CHECK.due("7: share " + u + " / " + d, x.share(u, d), 1);
                Ratio due = Ratio.of(4L * d, d - u);
                CHECK.answer("7: " + u + " / " + d, x, x.worth(0), due.upper.longValueExact(), due.lower.longValueExact());
            }
        }
        CHECK.due("7: share", x.share(5, 6), 1);
        int[][] wrong = {{0, 0}, {1, 1}, {6, 6}, {-1, 2}, {2, 1}, {0, 7}, {5, 7}, {0, -1}, {-2, -1},
            {Integer.MIN_VALUE, 6}, {0, Integer.MIN_VALUE}, {Integer.MAX_VALUE, Integer.MAX_VALUE}, {0, Integer.MAX_VALUE}};
        for (int[] pair : wrong) {
            CHECK.due("7: outside " + pair[0] + " / " + pair[1], x.share(pair[0], pair[1]), -2);
        }
        CHECK.answer("7: nothing changed", x, x.worth(0), 24, 1);
    }

    private static void promise8Tell() {
        PlanValues x = two();
        CHECK.due("8: at first act 0", x.tell(1, 1), 0);
        CHECK.due("8: which one it had", x.tell(1, 0), 1);
        CHECK.due("8: each state for itself", x.tell(0, 1), 0);
        CHECK.due("8: the same again", x.tell(0, 1), 1);
        CHECK.answer("8: the plan has it", x, x.worth(0), 8, 1);
        x.tell(1, 1);
        CHECK.answer("8: both", x, x.worth(0), -1, 1);
        for (int state : NO_STATE) {
            CHECK.due("8: unknown state", x.tell(state, 0), -1);
        }
        for (int act : NO_ACT) {
            CHECK.due("8: unknown act", x.tell(0, act), -1);
        }
        CHECK.due("8: nothing changed", x.tell(0, 1), 1);
        x.state(false);
        CHECK.due("8: a state without acts", x.tell(2, 0), -1);
        x.act(2, 1);
        CHECK.due("8: with one", x.tell(2, 0), 0);
    }

    private static void promise9Value() {
        PlanValues x = two();
        CHECK.answer("9: ours", x, x.value(0), 8, 1);
        CHECK.answer("9: theirs", x, x.value(1), -4, 1);
        for (int state : NO_STATE) {
            CHECK.due("9: unknown", x.value(state), -1);
            CHECK.held("9: unknown changes nothing", x, -4, 1);
        }
        x.tell(0, 1);
        x.tell(1, 1);
        CHECK.answer("9: whatever was told", x, x.value(0), 8, 1);
        CHECK.due("9: and nothing is told by it", x.tell(0, 1), 1);
        x.state(true);
        CHECK.answer("9: without acts", x, x.value(2), 0, 1);
        x.pay(0, 1, 50);
        CHECK.answer("9: a change counts", x, x.value(0), 48, 1);
        x.share(0, 5);
        CHECK.answer("9: share 0", x, x.value(0), 50, 1);
        x.act(2, 5);
        CHECK.answer("9: one act", x, x.value(2), 5, 1);
        x.act(2, 6);
        CHECK.answer("9: theirs for the least", x, x.value(2), 5, 1);
    }

    /** They take our way to the good end from us, which is worth it to them only while we want to go there. */
    private static void promise9ValueAgainstTheirs() {
        PlanValues x = new PlanValues();
        x.state(false);
        x.state(true);
        x.state(false);
        x.act(0, 3);
        x.act(0, 0);
        x.weight(0, 1, 1, 6);
        x.act(1, 6);
        x.weight(1, 0, 2, 1);
        x.act(1, 7);
        x.weight(1, 1, 0, 3);
        x.act(2, 4);
        x.weight(2, 0, 2, 2);
        CHECK.answer("9: state 2", x, x.value(2), 8, 1);
        CHECK.answer("9: state 1: 6 and 4, or 7 and a half of state 0", x, x.value(1), 28, 3);
        CHECK.answer("9: state 0: 3, or a half of state 1", x, x.value(0), 14, 3);
    }

    private static void promise10Comes() {
        PlanValues x = two();
        CHECK.answer("10: ours, best", x, x.comes(0, 0), 8, 1);
        CHECK.answer("10: ours, not best", x, x.comes(0, 1), -1, 1);
        CHECK.answer("10: theirs, not best", x, x.comes(1, 0), 14, 1);
        CHECK.answer("10: theirs, best", x, x.comes(1, 1), -4, 1);
        for (int state : NO_STATE) {
            CHECK.due("10: unknown state", x.comes(state, 0), -1);
        }
        for (int act : NO_ACT) {
            CHECK.due("10: unknown act", x.comes(0, act), -1);
        }
        CHECK.held("10: nothing changed", x, -4, 1);
        x.state(false);
        CHECK.due("10: a state without acts", x.comes(2, 0), -1);
        x.act(0, -9);
        CHECK.answer("10: total 0", x, x.comes(0, 2), -9, 1);
        x.weight(0, 2, 0, 1);
        x.weight(0, 2, 1, 2);
        x.weight(0, 2, 2, 3);
        CHECK.answer("10: 8 by 12 less 8 by 12", x, x.comes(0, 2), -9, 1);
        x.weight(0, 2, 1, 0);
        CHECK.answer("10: 8 by 8", x, x.comes(0, 2), -8, 1);
        x.share(1, 3);
        CHECK.answer("10: share 1 / 3, values 6 and -3", x, x.comes(0, 2), -17, 2);
    }

    private static void promise11Best() {
        PlanValues x = two();
        CHECK.due("11: ours", x.best(0), 1);
        CHECK.due("11: theirs", x.best(1), 2);
        x.act(0, 8);
        CHECK.due("11: two of three", x.best(0), 5);
        x.pay(0, 1, 10);
        CHECK.due("11: all", x.best(0), 7);
        x.pay(0, 1, 11);
        CHECK.due("11: one more than they", x.best(0), 2);
        x.act(1, -4);
        CHECK.due("11: theirs, two", x.best(1), 6);
        x.pay(1, 2, -5);
        CHECK.due("11: theirs, the last", x.best(1), 4);
        x.value(0);
        long upper = x.upper();
        for (int state : NO_STATE) {
            CHECK.due("11: unknown", x.best(state), -1);
        }
        x.state(false);
        CHECK.due("11: without acts", x.best(2), 0);
        CHECK.held("11: the answer stays", x, upper, x.lower());
    }

    private static void promise12Worth() {
        PlanValues x = two();
        CHECK.answer("12: act 0", x, x.worth(0), 8, 1);
        CHECK.answer("12: theirs too", x, x.worth(1), 14, 1);
        for (int state : NO_STATE) {
            CHECK.due("12: unknown", x.worth(state), -1);
            CHECK.held("12: nothing changed", x, 14, 1);
        }
        x.tell(1, 1);
        CHECK.answer("12: what is told counts", x, x.worth(1), -4, 1);
        x.tell(0, 1);
        CHECK.answer("12: even if it is not best", x, x.worth(0), -1, 1);
        x.state(true);
        CHECK.answer("12: without acts", x, x.worth(2), 0, 1);
        x.weight(0, 1, 2, 2);
        CHECK.answer("12: a third of the way to -4", x, x.worth(0), 1, 3);
        x.act(2, 9);
        CHECK.answer("12: total 0", x, x.worth(2), 9, 1);
        CHECK.answer("12: and 3 more", x, x.worth(0), 10, 3);
        x.share(0, 3);
        CHECK.answer("12: share 0", x, x.worth(0), 1, 1);
    }

    private static void promise13Reply() {
        PlanValues x = two();
        CHECK.answer("13: the least by our act 0", x, x.reply(0, 0), 8, 1);
        CHECK.answer("13: of theirs", x, x.reply(1, 0), -4, 1);
        x.tell(0, 1);
        CHECK.answer("13: the least by our act 1", x, x.reply(0, 0), -1, 1);
        x.pay(0, 1, 4);
        CHECK.answer("13: the greatest by their act 0", x, x.reply(0, 1), 12, 1);
        CHECK.answer("13: of theirs", x, x.reply(1, 1), 16, 1);
        x.tell(0, 0);
        CHECK.answer("13: ours are free then", x, x.reply(0, 1), 12, 1);
        x.tell(1, 1);
        CHECK.answer("13: the greatest by their act 1", x, x.reply(0, 1), 8, 1);
        CHECK.answer("13: theirs are told", x, x.reply(1, 1), -4, 1);
        for (int state : NO_STATE) {
            CHECK.due("13: unknown", x.reply(state, 0), -1);
            CHECK.due("13: unknown before outside", x.reply(state, 2), -1);
        }
        for (int side : new int[] {-1, 2, Integer.MIN_VALUE, Integer.MAX_VALUE}) {
            CHECK.due("13: outside", x.reply(0, side), -2);
        }
        CHECK.held("13: nothing changed", x, -4, 1);
        CHECK.due("13: the told plan stays", x.tell(0, 0), 0);
        CHECK.due("13: of both", x.tell(1, 1), 1);
        x.state(false);
        CHECK.answer("13: without acts", x, x.reply(2, 0), 0, 1);
        CHECK.answer("13: without acts", x, x.reply(2, 1), 0, 1);
    }

    private static void promise14Change() {
        for (int sign = -1; sign <= 1; sign += 2) {
            PlanValues x = new PlanValues();
            x.state(sign < 0);
            x.state(sign > 0);
            CHECK.due("14: no act", x.change(0), -3);
            x.act(0, 0);
            CHECK.due("14: the only one", x.change(0), 0);
            x.act(0, 3 * sign);
            x.act(0, 4 * sign);
            x.weight(0, 1, 0, 5);
            CHECK.due("14: 6 by staying for ever, not 4 at once", x.change(0), 1);
            x.pay(0, 2, 6 * sign);
            CHECK.due("14: the least number of several", x.change(0), 1);
            x.pay(0, 0, 6 * sign);
            CHECK.due("14: of all", x.change(0), 0);
            x.tell(0, 2);
            CHECK.due("14: not the told one", x.change(0), 0);
            x.weight(0, 2, 1, 1);
            x.act(1, sign);
            x.act(1, -50 * sign);
            CHECK.due("14: the others do as told", x.change(0), 2);
            x.tell(1, 1);
            CHECK.due("14: the others do as told", x.change(0), 0);
            x.worth(0);
            CHECK.due("14: the other side", x.change(1), 1);
            CHECK.held("14: the answer stays", x, -19 * sign, 1);
            CHECK.due("14: what is told stays", x.tell(0, 2), 2);
            for (int state : NO_STATE) {
                CHECK.due("14: unknown", x.change(state), -1);
            }
        }
    }

    private static void promise15Within() {
        PlanValues x = two();
        long[][] due = {{0, 1, 0, 1}, {4, 1, -2, 1}, {6, 1, -3, 1}, {7, 1, -7, 2}, {15, 2, -15, 4}, {31, 4, -31, 8}};
        for (int n = 0; n <= 5; n++) {
            CHECK.answer("15: ours within " + n, x, x.within(0, n), due[n][0], due[n][1]);
            CHECK.answer("15: theirs within " + n, x, x.within(1, n), due[n][2], due[n][3]);
        }
        for (int state : NO_STATE) {
            CHECK.due("15: unknown", x.within(state, 1), -1);
            CHECK.due("15: unknown before outside", x.within(state, 6), -1);
        }
        for (int n : new int[] {-1, 6, Integer.MIN_VALUE, Integer.MAX_VALUE}) {
            CHECK.due("15: outside", x.within(0, n), -2);
        }
        CHECK.held("15: nothing changed", x, -31, 8);
        x.state(false);
        CHECK.answer("15: without acts", x, x.within(2, 5), 0, 1);
        x.share(0, 1);
        CHECK.answer("15: share 0", x, x.within(0, 5), 4, 1);
        x.tell(0, 1);
        CHECK.answer("15: whatever was told", x, x.within(0, 1), 4, 1);
    }

    /** The first acts stay and the last one takes all: no one PLAN does both. */
    private static void promise15WithinIsNotByOnePlan() {
        for (int sign = -1; sign <= 1; sign += 2) {
            PlanValues x = new PlanValues();
            x.state(sign < 0);
            x.act(0, 2 * sign);
            x.act(0, 3 * sign);
            x.weight(0, 0, 0, 3);
            CHECK.answer("15: one", x, x.within(0, 1), 3 * sign, 1);
            CHECK.answer("15: two", x, x.within(0, 2), 7 * sign, 2);
            CHECK.answer("15: three", x, x.within(0, 3), 15 * sign, 4);
            CHECK.answer("15: five", x, x.within(0, 5), 63 * sign, 16);
            CHECK.answer("15: without end", x, x.value(0), 4 * sign, 1);
        }
    }

    private static void promise16Run() {
        PlanValues x = two();
        CHECK.answer("16: staying", x, x.run(0), 4, 1);
        CHECK.answer("16: going there", x, x.run(1), 4, 1);
        x.tell(0, 1);
        CHECK.answer("16: to and fro", x, x.run(0), 11, 2);
        CHECK.answer("16: to and fro", x, x.run(1), 11, 2);
        x.share(5, 6);
        CHECK.answer("16: the share does not count", x, x.run(1), 11, 2);
        for (int state : NO_STATE) {
            CHECK.due("16: unknown", x.run(state), -1);
            CHECK.held("16: nothing changed", x, 11, 2);
        }
        x.weight(1, 0, 1, 2);
        CHECK.answer("16: once and thrice", x, x.run(0), 31, 4);
        x.weight(1, 0, 0, 0);
        x.weight(1, 0, 1, 0);
        CHECK.answer("16: total 0", x, x.run(0), 0, 1);
        CHECK.answer("16: total 0", x, x.run(1), 0, 1);
        x.state(false);
        CHECK.answer("16: without acts", x, x.run(2), 0, 1);
        x.weight(1, 0, 2, 6);
        CHECK.answer("16: into a state without acts", x, x.run(0), 0, 1);
        x.weight(1, 0, 2, 5);
        x.weight(1, 0, 1, 1);
        CHECK.answer("16: somewhen", x, x.run(1), 0, 1);
    }

    private static void promise16RunIntoCirclesAndEnds() {
        PlanValues x = new PlanValues();
        int[] pays = {5, 50, 10, -1};
        for (int state = 0; state < 5; state++) {
            x.state(state % 2 == 0);
        }
        for (int state = 0; state < 4; state++) {
            x.act(state, pays[state]);
        }
        x.weight(0, 0, 2, 1);
        x.weight(0, 0, 3, 1);
        x.weight(2, 0, 0, 1);
        x.weight(3, 0, 0, 1);
        x.weight(3, 0, 3, 1);
        for (int state : new int[] {0, 2, 3}) {
            CHECK.answer("16: a circle by two, one and two fifths", x, x.run(state), 18, 5);
        }
        x.weight(1, 0, 1, 3);
        x.weight(1, 0, 3, 1);
        x.weight(1, 0, 4, 2);
        CHECK.answer("16: there by a third", x, x.run(1), 6, 5);
        x.act(4, 50);
        CHECK.answer("16: an act with total 0", x, x.run(1), 6, 5);
        CHECK.answer("16: an act with total 0", x, x.run(4), 0, 1);
        x.weight(4, 0, 4, 1);
        CHECK.answer("16: two circles", x, x.run(1), 518, 15);
        CHECK.answer("16: the other one", x, x.run(4), 50, 1);
        x.weight(4, 0, 1, 1);
        CHECK.answer("16: all go to the one", x, x.run(4), 18, 5);
    }

    private static void promise17Settled() {
        PlanValues x = two();
        CHECK.due("17: theirs is not best", x.settled(), 0);
        x.tell(1, 1);
        CHECK.due("17: both are", x.settled(), 1);
        x.tell(0, 1);
        CHECK.due("17: ours is not", x.settled(), 0);
        x.pay(0, 1, 10);
        CHECK.due("17: another with the same worth", x.settled(), 1);
        x.tell(0, 0);
        CHECK.due("17: either of the two", x.settled(), 1);
        x.state(true);
        CHECK.due("17: a state without acts", x.settled(), 1);
        x.act(2, 7);
        x.act(2, 6);
        CHECK.due("17: even a state where no walk goes", x.settled(), 0);
        x.worth(2);
        x.settled();
        CHECK.held("17: the answer stays", x, 7, 1);
    }

    private static void promises18And19UpperAndLower() {
        PlanValues x = two();
        CHECK.held("18, 19: at first", x, 0, 1);
        x.share(3, 6);
        CHECK.answer("18, 19: lowest terms", x, x.worth(0), 8, 1);
        x.pay(0, 0, 0);
        CHECK.answer("18, 19: 0 by 1", x, x.worth(0), 0, 1);
        x.pay(0, 0, -3);
        x.share(1, 5);
        CHECK.answer("18, 19: below 0", x, x.worth(0), -15, 4);
        CHECK.held("18, 19: once more", x, -15, 4);
        x.weight(0, 0, 1, 1);
        x.pay(1, 0, 0);
        CHECK.answer("18, 19: the lower number is above 0", x, x.worth(0), -75, 22);
    }

    private static void promises18And19HeldByRefusedCalls() {
        PlanValues x = two();
        x.within(1, 3);
        x.state(true);
        x.act(2, 1);
        x.tell(2, 0);
        x.weight(2, 0, 1, 1);
        x.pay(2, 0, 4);
        x.share(1, 3);
        x.best(2);
        x.change(2);
        x.settled();
        for (int what = -1; what < 6; what++) {
            x.told(what);
        }
        x.value(3);
        x.comes(2, 1);
        x.worth(-1);
        x.reply(0, 2);
        x.within(0, 6);
        x.run(3);
        CHECK.held("18, 19: only answers change it", x, -7, 2);
    }

    private static void promise20Told() {
        PlanValues x = two();
        CHECK.due("20: states", x.told(0), 2);
        CHECK.due("20: acts", x.told(1), 4);
        CHECK.due("20: plans", x.told(2), 4);
        CHECK.due("20: plans with the values", x.told(3), 1);
        CHECK.due("20: theirs", x.told(4), 1);
        for (int what : new int[] {-1, 5, Integer.MIN_VALUE, Integer.MAX_VALUE}) {
            CHECK.due("20: outside", x.told(what), -2);
        }
        x.state(true);
        CHECK.due("20: a state without acts", x.told(0), 3);
        CHECK.due("20: has no choice", x.told(2), 4);
        CHECK.due("20: nor one with the values", x.told(3), 1);
        CHECK.due("20: theirs", x.told(4), 2);
        x.act(2, 1);
        CHECK.due("20: one act is no choice", x.told(2), 4);
        x.act(2, 1);
        x.act(2, 1);
        CHECK.due("20: three are", x.told(2), 12);
        CHECK.due("20: acts", x.told(1), 7);
        CHECK.due("20: all three are as good", x.told(3), 3);
    }

    private static void promise20ToldPlansWithValues() {
        PlanValues x = new PlanValues();
        for (int state = 0; state < 5; state++) {
            x.state(state == 3);
            for (int act = 0; act < 3; act++) {
                x.act(state, 7);
                x.weight(state, act, state, act + 1);
            }
        }
        CHECK.due("20: all plans", x.told(2), 243);
        CHECK.due("20: all have the values", x.told(3), 243);
        x.weight(3, 0, 3, 0);
        CHECK.due("20: theirs end at once", x.told(3), 81);
        x.weight(0, 2, 3, 3);
        CHECK.due("20: ours do not go there", x.told(3), 54);
        x.pay(1, 0, 8);
        CHECK.due("20: one is best", x.told(3), 18);
    }

    /** The greatest WORTH, and lower numbers as great as they become. */
    private static void greatestNumbers() {
        PlanValues x = new PlanValues();
        Reference due = new Reference();
        due.share(5, 6);
        x.share(5, 6);
        int[][] weights = {{1, 1, 1, 1, 2}, {2, 1, 1, 1, 1}, {1, 2, 1, 1, 1}, {1, 1, 2, 1, 1}, {1, 1, 1, 1, 2},
            {1, 0, 2, 1, 2}, {0, 1, 3, 1, 1}, {2, 1, 1, 0, 2}, {1, 3, 0, 1, 1}, {1, 1, 1, 2, 0}};
        for (int state = 0; state < 5; state++) {
            due.state(state > 2);
            x.state(state > 2);
        }
        for (int state = 0; state < 5; state++) {
            for (int act = 0; act < 3; act++) {
                int pay = (state + act) % 2 == 0 ? 50 - act : act - 50;
                due.act(state, pay);
                x.act(state, pay);
                for (int to = 0; to < 5; to++) {
                    int w = weights[(state + 3 * act) % 10][to];
                    CHECK.due("great: weight", x.weight(state, act, to, w), due.weight(state, act, to, w));
                }
            }
        }
        for (int state = 0; state < 5; state++) {
            due.value(state);
            CHECK.answer("great: value", x, x.value(state), due.upper(), due.lower());
            due.worth(state);
            CHECK.answer("great: worth", x, x.worth(state), due.upper(), due.lower());
            due.within(state, 5);
            CHECK.answer("great: within", x, x.within(state, 5), due.upper(), due.lower());
            for (int act = 0; act < 3; act++) {
                due.comes(state, act);
                CHECK.answer("great: comes", x, x.comes(state, act), due.upper(), due.lower());
            }
            CHECK.due("great: change", x.change(state), due.change(state));
            CHECK.due("great: best", x.best(state), due.best(state));
        }
    }
}
