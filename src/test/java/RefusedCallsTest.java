import java.util.function.Supplier;
import java.util.function.ToIntFunction;

/**
 * Each code of each call by itself, and each pair of codes that could both be answered. Behind every
 * refused call the object is alike in all to one on which it was not made.
 */
public final class RefusedCallsTest {
    private static final Check CHECK = new Check();
    private static final int LEAST = Integer.MIN_VALUE;
    private static final int MOST = Integer.MAX_VALUE;
    private static final int[] NOT_PAY = {-51, 51, -100, 100, LEAST, MOST};
    private static final int[] NOT_WEIGHT = {-1, 7, -6, 12, LEAST, MOST};

    public static void main(String[] args) {
        promise3StateNoRoom();
        promise4ActUnknown();
        promise4ActOutside();
        promise4ActNoRoom();
        promise4ActOrder();
        promise5WeightUnknown();
        promise5WeightOutside();
        promise5WeightTotal();
        promise5WeightOrder();
        promise6PayUnknown();
        promise6PayOutside();
        promise6PayOrder();
        promise7ShareOutside();
        promise8TellUnknown();
        promise9ValueUnknown();
        promise10ComesUnknown();
        promise11BestUnknown();
        promise12WorthUnknown();
        promise13ReplyUnknown();
        promise13ReplyOutside();
        promise13ReplyOrder();
        promise14ChangeUnknown();
        promise14ChangeNotSo();
        promise15WithinUnknown();
        promise15WithinOutside();
        promise15WithinOrder();
        promise16RunUnknown();
        promise20ToldOutside();
        manyRefusedCalls();
        CHECK.end("RefusedCallsTest");
    }

    private static void refused(int code, String call, Supplier<PlanValues> made, ToIntFunction<PlanValues> refused) {
        PlanValues x = made.get();
        CHECK.due(call, refused.applyAsInt(x), code);
        CHECK.alike(call + " changes nothing", x, made.get());
    }

    private interface OfState {
        int on(PlanValues x, int state);
    }

    private interface OfAct {
        int on(PlanValues x, int state, int act);
    }

    /** The numbers next to those of the STATES, and the farthest ones, on objects with 0, 3 and 5 STATES. */
    private static void unknownStates(String call, OfState one) {
        for (int state : new int[] {-1, 0, 1, 4, LEAST, MOST}) {
            refused(-1, call + " of " + state + " of none", Examples::empty, x -> one.on(x, state));
        }
        for (int state : new int[] {-1, 3, 4, 5, LEAST, LEAST + 1, MOST}) {
            refused(-1, call + " of " + state + " of 3", Examples::some, x -> one.on(x, state));
        }
        for (int state : new int[] {-1, 5, 6, 8, LEAST, MOST}) {
            refused(-1, call + " of " + state + " of 5", Examples::full, x -> one.on(x, state));
        }
    }

    /** The numbers next to those of the ACTS, and the farthest ones, of STATES with 2, 0 and 3 ACTS. */
    private static void unknownActs(String call, OfAct one) {
        for (int act : new int[] {-1, 2, 3, -3, LEAST, MOST}) {
            refused(-1, call + " of act " + act + " of 2", Examples::some, x -> one.on(x, 0, act));
            refused(-1, call + " of act " + act + " of their 2", Examples::some, x -> one.on(x, 1, act));
        }
        for (int act : new int[] {-1, 0, 1, 2, LEAST, MOST}) {
            refused(-1, call + " of act " + act + " of none", Examples::some, x -> one.on(x, 2, act));
        }
        for (int act : new int[] {-1, 3, 4, LEAST, MOST}) {
            refused(-1, call + " of act " + act + " of 3", Examples::full, x -> one.on(x, 0, act));
            refused(-1, call + " of act " + act + " of the last 3", Examples::full, x -> one.on(x, 4, act));
        }
        // Their places would be those of ACTS of STATE 1, if all ACTS stood in one row.
        refused(-1, call + " of act 3 of state 0", Examples::some, x -> one.on(x, 0, 3));
        refused(-1, call + " of act 4 of state 0", Examples::some, x -> one.on(x, 0, 4));
        refused(-1, call + " of act -1 of state 1", Examples::full, x -> one.on(x, 1, -1));
        unknownStates(call + " of act 0", (x, state) -> one.on(x, state, 0));
    }

    private static void promise3StateNoRoom() {
        CHECK.about("Promise 3: A STATE, OURS or THEIRS: its number. -4.");
        refused(-4, "state(false)", Examples::full, x -> x.state(false));
        refused(-4, "state(true)", Examples::full, x -> x.state(true));
        refused(-4, "again", Examples::full, x -> {
            x.state(true);
            return x.state(true);
        });
    }

    private static void promise4ActUnknown() {
        CHECK.about("Promise 4: An ACT of a STATE with a PAY: its number. -1");
        unknownStates("act", (x, state) -> x.act(state, 1));
    }

    private static void promise4ActOutside() {
        CHECK.about("Promise 4: An ACT of a STATE with a PAY: its number. -1; -2");
        for (int pay : NOT_PAY) {
            refused(-2, "act(0, " + pay + ")", Examples::some, x -> x.act(0, pay));
            refused(-2, "act(1, " + pay + ")", Examples::some, x -> x.act(1, pay));
            refused(-2, "act(2, " + pay + ")", Examples::some, x -> x.act(2, pay));
        }
    }

    private static void promise4ActNoRoom() {
        CHECK.about("Promise 4: An ACT of a STATE with a PAY: its number. -1; -2; -4.");
        for (int pay : new int[] {-50, 0, 50}) {
            for (int state = 0; state < 5; state++) {
                int its = state;
                refused(-4, "act(" + state + ", " + pay + ")", Examples::full, x -> x.act(its, pay));
            }
        }
    }

    private static void promise4ActOrder() {
        CHECK.about("Promise 4: -1; -2; -4. the first that fits is answered");
        for (int pay : NOT_PAY) {
            refused(-2, "a pay outside, no room", Examples::full, x -> x.act(4, pay));
            unknownStates("a pay outside, act", (x, state) -> x.act(state, pay));
        }
    }

    private static void promise5WeightUnknown() {
        CHECK.about("Promise 5: The WEIGHT of an ACT for a STATE: what it was. -1");
        unknownActs("weight", (x, state, act) -> x.weight(state, act, 0, 1));
        unknownStates("weight for a state", (x, to) -> x.weight(0, 0, to, 1));
        unknownStates("weight 0 for a state", (x, to) -> x.weight(0, 1, to, 0));
    }

    private static void promise5WeightOutside() {
        CHECK.about("Promise 5: -2 the WEIGHT");
        for (int w : NOT_WEIGHT) {
            for (int to = 0; to < 3; to++) {
                int its = to;
                refused(-2, "weight(0, 0, " + to + ", " + w + ")", Examples::some, x -> x.weight(0, 0, its, w));
                refused(-2, "weight(0, 1, " + to + ", " + w + ")", Examples::some, x -> x.weight(0, 1, its, w));
                refused(-2, "total 0, " + to + ", " + w, Examples::some, x -> x.weight(1, 0, its, w));
            }
        }
    }

    /** In some() the TOTALS are 2 + 3 + 1, 3 (for STATE 1) and 4 (for STATE 0). */
    private static void promise5WeightTotal() {
        CHECK.about("Promise 5: -2 the WEIGHT, or the TOTAL would be above 6");
        refused(-2, "6 and 1 more in place of 2", Examples::some, x -> x.weight(0, 0, 0, 3));
        refused(-2, "6 and 1 more in place of 3", Examples::some, x -> x.weight(0, 0, 1, 4));
        refused(-2, "6 and 1 more in place of 1", Examples::some, x -> x.weight(0, 0, 2, 2));
        refused(-2, "6 in place of 1", Examples::some, x -> x.weight(0, 0, 2, 6));
        refused(-2, "3 and 4", Examples::some, x -> x.weight(0, 1, 0, 4));
        refused(-2, "3 and 6", Examples::some, x -> x.weight(0, 1, 2, 6));
        refused(-2, "4 and 3", Examples::some, x -> x.weight(1, 1, 2, 3));
        for (int to = 0; to < 5; to++) {
            int its = to;
            refused(-2, "full, for " + to, Examples::full, x -> x.weight(4, 2, its, 5));
        }
    }

    private static void promise5WeightOrder() {
        CHECK.about("Promise 5: -1; -2 the first that fits is answered");
        for (int w : NOT_WEIGHT) {
            unknownActs("weight " + w, (x, state, act) -> x.weight(state, act, 0, w));
            unknownStates("weight " + w + " for a state", (x, to) -> x.weight(0, 0, to, w));
        }
        unknownActs("the total too", (x, state, act) -> x.weight(state, act, 1, 6));
        unknownStates("the total too, for a state", (x, to) -> x.weight(0, 0, to, 6));
    }

    private static void promise6PayUnknown() {
        CHECK.about("Promise 6: The PAY of an ACT becomes another one: what it was, and 50. -1");
        unknownActs("pay", (x, state, act) -> x.pay(state, act, 9));
    }

    private static void promise6PayOutside() {
        CHECK.about("Promise 6: The PAY of an ACT becomes another one: what it was, and 50. -1; -2.");
        for (int pay : NOT_PAY) {
            refused(-2, "pay(0, 0, " + pay + ")", Examples::some, x -> x.pay(0, 0, pay));
            refused(-2, "pay(1, 1, " + pay + ")", Examples::some, x -> x.pay(1, 1, pay));
            refused(-2, "pay(4, 2, " + pay + ")", Examples::full, x -> x.pay(4, 2, pay));
        }
    }

    private static void promise6PayOrder() {
        CHECK.about("Promise 6: -1; -2. the first that fits is answered");
        for (int pay : NOT_PAY) {
            unknownActs("pay " + pay, (x, state, act) -> x.pay(state, act, pay));
        }
    }

    private static void promise7ShareOutside() {
        CHECK.about("Promise 7: THE SHARE becomes u / d: 1. -2.");
        for (int d = 1; d <= 6; d++) {
            for (int u : new int[] {-1, d, d + 1, -d, LEAST, MOST}) {
                refuseShare(u, d);
            }
        }
        for (int d : new int[] {0, 7, 8, 12, -1, -2, -6, LEAST, MOST}) {
            for (int u : new int[] {-1, 0, 1, 5, 6, LEAST, MOST}) {
                refuseShare(u, d);
            }
        }
        refuseShare(-1, -2);
        refuseShare(LEAST, LEAST + 1);
        refuseShare(MOST - 1, MOST);
    }

    private static void refuseShare(int u, int d) {
        refused(-2, "share(" + u + ", " + d + ")", Examples::empty, x -> x.share(u, d));
        refused(-2, "share(" + u + ", " + d + ")", Examples::some, x -> x.share(u, d));
    }

    private static void promise8TellUnknown() {
        CHECK.about("Promise 8: THE TOLD PLAN has an ACT for a STATE from now on: which one it had. -1.");
        unknownActs("tell", PlanValues::tell);
    }

    private static void promise9ValueUnknown() {
        CHECK.about("Promise 9: ANSWER: the VALUE of a STATE. -1.");
        unknownStates("value", PlanValues::value);
    }

    private static void promise10ComesUnknown() {
        CHECK.about("Promise 10: ANSWER: what an ACT comes to by VALUES. -1.");
        unknownActs("comes", PlanValues::comes);
    }

    private static void promise11BestUnknown() {
        CHECK.about("Promise 11: The BEST ACTS of a STATE, as bits. -1.");
        unknownStates("best", PlanValues::best);
    }

    private static void promise12WorthUnknown() {
        CHECK.about("Promise 12: ANSWER: the WORTH of a STATE by THE TOLD PLAN. -1.");
        unknownStates("worth", PlanValues::worth);
    }

    private static void promise13ReplyUnknown() {
        CHECK.about("Promise 13: ANSWER: the least (side = 0) .. the greatest (1) .. -1");
        unknownStates("reply, side 0", (x, state) -> x.reply(state, 0));
        unknownStates("reply, side 1", (x, state) -> x.reply(state, 1));
    }

    private static void promise13ReplyOutside() {
        CHECK.about("Promise 13: ANSWER: the least (side = 0) .. the greatest (1) .. -1; -2.");
        for (int side : new int[] {-1, 2, 3, -2, 256, LEAST, MOST}) {
            for (int state = 0; state < 3; state++) {
                int its = state;
                refused(-2, "reply(" + state + ", " + side + ")", Examples::some, x -> x.reply(its, side));
            }
            refused(-2, "reply(4, " + side + ")", Examples::full, x -> x.reply(4, side));
        }
    }

    private static void promise13ReplyOrder() {
        CHECK.about("Promise 13: -1; -2. the first that fits is answered");
        for (int side : new int[] {-1, 2, LEAST, MOST}) {
            unknownStates("reply, side " + side, (x, state) -> x.reply(state, side));
        }
    }

    private static void promise14ChangeUnknown() {
        CHECK.about("Promise 14: of several the one with the least number. -1");
        unknownStates("change", PlanValues::change);
    }

    private static void promise14ChangeNotSo() {
        CHECK.about("Promise 14: -3 it has no ACT.");
        refused(-3, "ours beside others", Examples::some, x -> x.change(2));
        refused(-3, "ours alone", () -> withoutActs(1, false), x -> x.change(0));
        refused(-3, "theirs alone", () -> withoutActs(1, true), x -> x.change(0));
        for (int state = 0; state < 5; state++) {
            int its = state;
            refused(-3, "one of five", () -> withoutActs(5, its % 2 == 0), x -> x.change(its));
        }
        PlanValues x = withoutActs(1, true);
        x.act(0, -50);
        CHECK.due("with an act it is not refused", x.change(0), 0);
    }

    private static PlanValues withoutActs(int states, boolean theirs) {
        PlanValues x = new PlanValues();
        for (int state = 0; state < states; state++) {
            x.state(theirs);
        }
        return x;
    }

    private static void promise15WithinUnknown() {
        CHECK.about("Promise 15: ANSWER: the VALUE of a STATE when all ends behind n ACTS .. -1");
        unknownStates("within 0", (x, state) -> x.within(state, 0));
        unknownStates("within 5", (x, state) -> x.within(state, 5));
    }

    private static void promise15WithinOutside() {
        CHECK.about("Promise 15: n ACTS (0 .. 5; 0: it is 0 then) .. -1; -2.");
        for (int n : new int[] {-1, 6, 7, -5, LEAST, MOST}) {
            for (int state = 0; state < 3; state++) {
                int its = state;
                refused(-2, "within(" + state + ", " + n + ")", Examples::some, x -> x.within(its, n));
            }
            refused(-2, "within(4, " + n + ")", Examples::full, x -> x.within(4, n));
        }
    }

    private static void promise15WithinOrder() {
        CHECK.about("Promise 15: -1; -2. the first that fits is answered");
        for (int n : new int[] {-1, 6, LEAST, MOST}) {
            unknownStates("within " + n, (x, state) -> x.within(state, n));
        }
    }

    private static void promise16RunUnknown() {
        CHECK.about("Promise 16: ANSWER: what the sum of the first n PAYS .. THE SHARE does not count. -1.");
        unknownStates("run", PlanValues::run);
    }

    private static void promise20ToldOutside() {
        CHECK.about("Promise 20: How many: 0 STATES .. 4 STATES that are THEIRS. -2.");
        for (int what : new int[] {-1, 5, 6, -4, LEAST, MOST}) {
            refused(-2, "told(" + what + ")", Examples::empty, x -> x.told(what));
            refused(-2, "told(" + what + ")", Examples::some, x -> x.told(what));
            refused(-2, "told(" + what + ")", Examples::full, x -> x.told(what));
        }
    }

    private static void manyRefusedCalls() {
        CHECK.about("Terms: the first that fits is answered; then nothing changes.");
        PlanValues x = Examples.some();
        for (int round = 0; round < 5; round++) {
            x.act(0, 51);
            x.act(3, 1);
            x.weight(0, 0, 0, 3);
            x.weight(0, 0, 3, 1);
            x.weight(2, 0, 0, 1);
            x.pay(1, 0, -51);
            x.pay(1, 2, 0);
            x.share(1, 1);
            x.tell(0, 2);
            x.value(3);
            x.comes(2, 0);
            x.worth(-1);
            x.reply(0, 2);
            x.change(2);
            x.within(0, 6);
            x.run(5);
            x.told(5);
        }
        CHECK.alike("refused calls of all kinds", x, Examples.some());
    }
}
