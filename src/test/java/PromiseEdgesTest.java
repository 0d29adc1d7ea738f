/**
 * The boundaries of promises 1 to 20 that are not refusals (those stand in RefusedCallsTest): the least,
 * the greatest, none, all, ties, the same again.
 */
public final class PromiseEdgesTest {
    private static final Check CHECK = new Check();

    public static void main(String[] args) {
        promise1NoStates();
        promise1ObjectsOfTheirOwn();
        promise2ClearIsLikeNew();
        promise2ClearMakesRoom();
        promise2NothingStaysBehindClear();
        promise3States();
        promise4Acts();
        promise5WhatItWas();
        promise6WhatItWasAnd50();
        promise7Share();
        promise8WhichOneItHad();
        promise9ValueOfOneSideAlone();
        promise9ValueAtTheLimits();
        promise9ValueWithoutShare();
        promise10ComesToAtTheLimits();
        promise11BestAllBits();
        promise11BestIsNotByTheToldPlan();
        promise12WorthAtTheLimits();
        promise13ReplyOfNoOne();
        promise13ReplyOfAll();
        promise13ReplyOfBoth();
        promise14ChangeOfSeveral();
        promise14ChangeInItsPlaceAlone();
        promise15WithinZero();
        promise15WithinOne();
        promise15WithinOneOfThree();
        promise15WithinFive();
        promise15WithinEndsEarlier();
        promise15WhateverWasChosenBefore();
        promise15WithinWithoutShare();
        promise16RunEnds();
        promise16RunRound();
        promise16RunOfFiveStates();
        promise16RunOnTheWay();
        promise16RunWhateverTheShare();
        promise17SettledWithNothing();
        promise17SettledByTies();
        promise17SettledNeedsEachState();
        promise18And19Greatest();
        promise20ToldLeast();
        promise20ToldGreatest();
        CHECK.end("PromiseEdgesTest");
    }

    /** STATES without ACTS, by 'o' for OURS and 't' for THEIRS. */
    private static PlanValues sides(String letters) {
        PlanValues x = new PlanValues();
        for (int state = 0; state < letters.length(); state++) {
            x.state(letters.charAt(state) == 't');
        }
        return x;
    }

    /** An ACT that goes to one STATE alone. */
    private static int way(PlanValues x, int state, int pay, int to) {
        int act = x.act(state, pay);
        x.weight(state, act, to, 1);
        return act;
    }

    private static void promise1NoStates() {
        CHECK.about("Promise 1: No STATES; THE SHARE is 1 / 2.");
        PlanValues x = new PlanValues();
        CHECK.due("no states", x.told(0), 0);
        CHECK.due("no acts", x.told(1), 0);
        CHECK.due("none theirs", x.told(4), 0);
        CHECK.due("the first is 0", x.state(false), 0);
        way(x, 0, 1, 0);
        CHECK.answer("the share is 1 / 2", x, x.value(0), 2, 1);
        CHECK.answer("the share is 1 / 2", x, x.within(0, 5), 31, 16);
    }

    private static void promise1ObjectsOfTheirOwn() {
        CHECK.about("Promise 1: No STATES; THE SHARE is 1 / 2.");
        PlanValues one = Examples.full();
        PlanValues other = new PlanValues();
        CHECK.due("a new one has no states beside a full one", other.told(0), 0);
        other.state(true);
        other.act(0, 3);
        other.share(0, 1);
        other.value(0);
        CHECK.alike("the full one stays as it is", one, Examples.full());
        CHECK.held("so does the other", other, 3, 1);
    }

    private static void promise2ClearIsLikeNew() {
        CHECK.about("Promise 2: All STATES go; THE SHARE is 1 / 2, THE ANSWER 0.");
        PlanValues[] objects = {Examples.empty(), Examples.some(), Examples.full()};
        for (PlanValues x : objects) {
            x.clear();
            CHECK.alike("as new", x, new PlanValues());
        }
        PlanValues x = Examples.full();
        x.clear();
        x.clear();
        CHECK.alike("twice", x, new PlanValues());
    }

    private static void promise2ClearMakesRoom() {
        CHECK.about("Promise 2: All STATES go");
        PlanValues x = Examples.full();
        x.clear();
        for (int state = 0; state < 5; state++) {
            CHECK.due("room for five", x.state(state < 3), state);
            for (int act = 0; act < 3; act++) {
                CHECK.due("room for three", x.act(state, act - 1), act);
                CHECK.due("room for six", x.weight(state, act, 0, 6), 0);
            }
        }
        CHECK.due("and no more", x.state(true), -4);
        CHECK.due("theirs are others now", x.told(4), 3);
        for (int state = 0; state < 5; state++) {
            CHECK.due("act 0 is told", x.tell(state, 0), 0);
            CHECK.due("theirs for the least", x.best(state), state < 3 ? 1 : 4);
        }
    }

    private static void promise2NothingStaysBehindClear() {
        CHECK.about("Promise 2: All STATES go");
        PlanValues bare = cleared();
        for (int state = 0; state < 5; state++) {
            bare.state(state % 2 == 0);
        }
        CHECK.alike("states without acts, as on a new object", bare, sides("totot"));
        PlanValues x = cleared();
        for (int state = 0; state < 5; state++) {
            x.state(state % 2 == 0);
            x.act(state, state % 2 == 0 ? 9 : -9);
        }
        for (int state = 0; state < 5; state++) {
            CHECK.answer("the value of its only act", x, x.value(state), state % 2 == 0 ? 9 : -9, 1);
            CHECK.due("it is best", x.best(state), 1);
        }
    }

    /** Everything that an object may keep for later calls has been asked for before it is cleared. */
    private static PlanValues cleared() {
        PlanValues x = Examples.full();
        for (int state = 0; state < 5; state++) {
            x.value(state);
            x.reply(state, 0);
            x.reply(state, 1);
            x.run(state);
        }
        x.clear();
        return x;
    }

    private static void promise3States() {
        CHECK.about("Promise 3: A STATE, OURS or THEIRS: its number.");
        PlanValues x = new PlanValues();
        CHECK.due("the first", x.state(true), 0);
        CHECK.due("it is theirs", x.told(4), 1);
        CHECK.due("the second", x.state(false), 1);
        CHECK.due("it is ours", x.told(4), 1);
        CHECK.due("it has no act", x.told(1), 0);
        CHECK.due("the third", x.state(true), 2);
        CHECK.due("the fourth", x.state(true), 3);
        CHECK.due("the last", x.state(true), 4);
        CHECK.due("four are theirs", x.told(4), 4);
    }

    private static void promise4Acts() {
        CHECK.about("Promise 4: An ACT of a STATE with a PAY: its number.");
        PlanValues x = sides("ootot");
        CHECK.due("the first of the last state", x.act(4, 50), 0);
        CHECK.due("the first of the first", x.act(0, -50), 0);
        CHECK.due("the second of the last", x.act(4, -50), 1);
        CHECK.due("the third of the last", x.act(4, 0), 2);
        CHECK.due("the second of the first", x.act(0, 50), 1);
        CHECK.due("five acts", x.told(1), 5);
        CHECK.answer("the least pay", x, x.comes(0, 0), -50, 1);
        CHECK.answer("the greatest", x, x.comes(4, 0), 50, 1);
        CHECK.answer("none", x, x.comes(4, 2), 0, 1);
    }

    private static void promise5WhatItWas() {
        CHECK.about("Promise 5: The WEIGHT of an ACT for a STATE: what it was.");
        PlanValues x = sides("ot");
        x.act(0, 1);
        int was = 0;
        for (int w : new int[] {0, 6, 6, 1, 0, 0, 3, 6, 5, 0}) {
            CHECK.due("for itself", x.weight(0, 0, 0, w), was);
            was = w;
        }
        for (int w : new int[] {6, 0, 6}) {
            CHECK.due("for another", x.weight(0, 0, 1, w), was);
            was = w;
        }
        CHECK.due("from 6 down to 0", x.weight(0, 0, 1, 0), 6);
        CHECK.due("the other takes all", x.weight(0, 0, 0, 6), 0);
    }

    private static void promise6WhatItWasAnd50() {
        CHECK.about("Promise 6: The PAY of an ACT becomes another one: what it was, and 50.");
        PlanValues x = sides("o");
        x.act(0, -50);
        x.act(0, 50);
        CHECK.due("the least", x.pay(0, 0, 50), 0);
        CHECK.due("the greatest", x.pay(0, 0, 50), 100);
        CHECK.due("the same again", x.pay(0, 0, -1), 100);
        CHECK.due("-1", x.pay(0, 0, 0), 49);
        CHECK.due("0", x.pay(0, 0, -50), 50);
        CHECK.answer("it is so", x, x.worth(0), -50, 1);
        CHECK.due("the other act has its own", x.pay(0, 1, 0), 100);
    }

    private static void promise7Share() {
        CHECK.about("Promise 7: THE SHARE becomes u / d: 1.");
        PlanValues x = sides("o");
        way(x, 0, 30, 0);
        CHECK.due("the least", x.share(0, 1), 1);
        CHECK.answer("nothing counts later", x, x.worth(0), 30, 1);
        CHECK.due("the greatest", x.share(5, 6), 1);
        CHECK.answer("six times", x, x.worth(0), 180, 1);
        CHECK.due("the same again", x.share(5, 6), 1);
        CHECK.answer("six times", x, x.worth(0), 180, 1);
        CHECK.due("not in lowest terms", x.share(4, 6), 1);
        CHECK.answer("as two thirds", x, x.worth(0), 90, 1);
        CHECK.due("0 of 6", x.share(0, 6), 1);
        CHECK.answer("as 0 of 1", x, x.worth(0), 30, 1);
        PlanValues none = new PlanValues();
        CHECK.due("without a state", none.share(2, 3), 1);
        none.state(false);
        way(none, 0, 30, 0);
        CHECK.answer("it holds for those made later", none, none.worth(0), 90, 1);
    }

    private static void promise8WhichOneItHad() {
        CHECK.about("Promise 8: THE TOLD PLAN has an ACT for a STATE from now on: which one it had.");
        PlanValues x = Examples.full();
        int[] had = {2, 0, 1, 2, 0};
        for (int state = 4; state >= 0; state--) {
            for (int act : new int[] {2, 2, 0, 1}) {
                CHECK.due("state " + state, x.tell(state, act), had[state]);
                had[state] = act;
            }
        }
        PlanValues one = sides("t");
        one.act(0, 4);
        CHECK.due("the only act", one.tell(0, 0), 0);
        one.act(0, 7);
        CHECK.due("a second one", one.tell(0, 1), 0);
        CHECK.answer("from now on", one, one.worth(0), 7, 1);
    }

    private static void promise9ValueOfOneSideAlone() {
        CHECK.about("Promise 9: ANSWER: the VALUE of a STATE.");
        for (String side : new String[] {"ooo", "ttt"}) {
            PlanValues x = sides(side);
            long sign = side.equals("ooo") ? 1 : -1;
            for (int state = 0; state < 3; state++) {
                way(x, state, (int) (-2 * sign), state);
                way(x, state, (int) sign, (state + 1) % 3);
            }
            way(x, 2, (int) (6 * sign), 2);
            CHECK.answer(side + " 2", x, x.value(2), 12 * sign, 1);
            CHECK.answer(side + " 1", x, x.value(1), 7 * sign, 1);
            CHECK.answer(side + " 0", x, x.value(0), 9 * sign, 2);
        }
    }

    private static void promise9ValueAtTheLimits() {
        CHECK.about("Promise 9: ANSWER: the VALUE of a STATE.");
        PlanValues x = sides("otoot");
        x.share(5, 6);
        for (int state = 0; state < 5; state++) {
            way(x, state, 50, state);
        }
        for (int state = 0; state < 5; state++) {
            CHECK.answer("the greatest there is", x, x.value(state), 300, 1);
            x.pay(state, 0, -50);
            CHECK.answer("the least there is", x, x.value(state), -300, 1);
        }
        way(x, 0, -50, 3);
        way(x, 1, 50, 1);
        CHECK.answer("another way as bad", x, x.value(0), -300, 1);
        CHECK.due("both are best", x.best(0), 3);
        CHECK.answer("theirs leave what is good", x, x.value(1), -300, 1);
    }

    private static void promise9ValueWithoutShare() {
        CHECK.about("Promise 9: ANSWER: the VALUE of a STATE. (u from 0)");
        PlanValues x = Examples.full();
        x.share(0, 6);
        int[] due = {8, -33, 42, -42, 47};
        for (int state = 0; state < 5; state++) {
            CHECK.answer("its greatest or least pay", x, x.value(state), due[state], 1);
        }
    }

    private static void promise10ComesToAtTheLimits() {
        CHECK.about("Promise 10: ANSWER: what an ACT comes to by VALUES.");
        PlanValues x = sides("ot");
        x.share(5, 6);
        way(x, 0, 50, 0);
        way(x, 0, -50, 0);
        way(x, 1, -50, 1);
        way(x, 1, 50, 0);
        CHECK.answer("the greatest", x, x.comes(0, 0), 300, 1);
        CHECK.answer("-50 and 250", x, x.comes(0, 1), 200, 1);
        CHECK.answer("the least", x, x.comes(1, 0), -300, 1);
        CHECK.answer("the greatest of theirs", x, x.comes(1, 1), 300, 1);
        x.act(1, 0);
        CHECK.answer("none", x, x.comes(1, 2), 0, 1);
        x.weight(1, 2, 1, 3);
        x.weight(1, 2, 0, 3);
        CHECK.answer("as much there as here", x, x.comes(1, 2), 0, 1);
    }

    private static void promise11BestAllBits() {
        CHECK.about("Promise 11: The BEST ACTS of a STATE, as bits.");
        for (int bits = 1; bits < 8; bits++) {
            PlanValues x = sides("ot");
            for (int act = 0; act < 3; act++) {
                boolean good = (bits >> act & 1) == 1;
                x.act(0, good ? 50 : 49);
                x.act(1, good ? -50 : -49);
            }
            CHECK.due("ours " + bits, x.best(0), bits);
            CHECK.due("theirs " + bits, x.best(1), bits);
        }
        PlanValues none = sides("ot");
        CHECK.due("ours, no act", none.best(0), 0);
        CHECK.due("theirs, no act", none.best(1), 0);
        none.act(1, 50);
        CHECK.due("its only act", none.best(1), 1);
        CHECK.due("the other has none still", none.best(0), 0);
    }

    private static void promise11BestIsNotByTheToldPlan() {
        CHECK.about("Promise 11: The BEST ACTS of a STATE, as bits.");
        PlanValues x = sides("ot");
        way(x, 0, 0, 1);
        x.act(0, 1);
        x.act(1, 40);
        x.act(1, 2);
        CHECK.due("0 and a half of 2 is 1", x.best(0), 3);
        x.tell(1, 0);
        CHECK.due("what is told does not count", x.best(0), 3);
        x.pay(1, 1, 3);
        CHECK.due("0 and a half of 3 is more", x.best(0), 1);
        x.pay(1, 1, 1);
        CHECK.due("0 and a half of 1 is less", x.best(0), 2);
    }

    private static void promise12WorthAtTheLimits() {
        CHECK.about("Promise 12: ANSWER: the WORTH of a STATE by THE TOLD PLAN.");
        PlanValues x = sides("tooto");
        x.share(5, 6);
        for (int state = 0; state < 5; state++) {
            way(x, state, 0, 0);
            way(x, state, 50, (state + 1) % 5);
            way(x, state, -50, (state + 4) % 5);
            CHECK.answer("act 0", x, x.worth(state), 0, 1);
        }
        for (int act : new int[] {1, 2}) {
            for (int state = 0; state < 5; state++) {
                x.tell(state, act);
            }
            for (int state = 0; state < 5; state++) {
                CHECK.answer("the limits", x, x.worth(state), act == 1 ? 300 : -300, 1);
            }
        }
    }

    private static void promise13ReplyOfNoOne() {
        CHECK.about("Promise 13: by the PLANS that have THE TOLD PLAN'S ACTS for STATES that are OURS .. for THEIRS");
        for (int side = 0; side < 2; side++) {
            PlanValues x = sides(side == 0 ? "oo" : "tt");
            way(x, 0, 2, 1);
            x.act(0, 30);
            x.act(1, 4);
            x.act(1, -30);
            CHECK.answer("no other side: as told", x, x.reply(0, side), 4, 1);
            x.tell(1, 1);
            CHECK.answer("no other side: as told", x, x.reply(0, side), -13, 1);
            CHECK.answer("no other side: as told", x, x.reply(1, side), -30, 1);
            x.tell(0, 1);
            CHECK.answer("no other side: as told", x, x.reply(0, side), 30, 1);
        }
    }

    private static void promise13ReplyOfAll() {
        CHECK.about("Promise 13: the least (side = 0) WORTH of a STATE by the PLANS .. the greatest (1)");
        for (int side = 0; side < 2; side++) {
            PlanValues x = sides(side == 0 ? "tt" : "oo");
            int sign = side == 0 ? -1 : 1;
            way(x, 0, 2 * sign, 1);
            x.act(0, 15 * sign);
            x.act(1, -30 * sign);
            x.act(1, 30 * sign);
            CHECK.answer("nothing is held", x, x.reply(0, side), 17L * sign, 1);
            x.tell(0, 1);
            x.tell(1, 0);
            CHECK.answer("whatever is told", x, x.reply(0, side), 17L * sign, 1);
            CHECK.answer("that is the value", x, x.value(0), 17L * sign, 1);
        }
    }

    private static void promise13ReplyOfBoth() {
        CHECK.about("Promise 13: the least (side = 0) WORTH of a STATE by the PLANS .. the greatest (1)");
        PlanValues x = sides("ot");
        way(x, 0, 10, 1);
        way(x, 0, 20, 0);
        way(x, 1, -10, 0);
        way(x, 1, -20, 1);
        CHECK.answer("ours held, theirs least", x, x.reply(0, 0), -10, 1);
        CHECK.answer("ours held, theirs least", x, x.reply(1, 0), -40, 1);
        CHECK.answer("theirs held, ours greatest", x, x.reply(0, 1), 40, 1);
        CHECK.answer("theirs held, ours greatest", x, x.reply(1, 1), 10, 1);
        x.tell(0, 1);
        x.tell(1, 1);
        CHECK.answer("settled: no reply is better", x, x.reply(0, 0), 40, 1);
        CHECK.answer("settled: no reply is better", x, x.reply(1, 1), -40, 1);
    }

    private static void promise14ChangeOfSeveral() {
        CHECK.about("Promise 14: of several the one with the least number.");
        for (int bits = 1; bits < 8; bits++) {
            for (int told = 0; told < 3; told++) {
                PlanValues x = sides("ot");
                for (int act = 0; act < 3; act++) {
                    boolean good = (bits >> act & 1) == 1;
                    x.act(0, good ? 1 : 0);
                    x.act(1, good ? -1 : 0);
                }
                x.tell(0, told);
                x.tell(1, told);
                int least = Integer.numberOfTrailingZeros(bits);
                CHECK.due("ours " + bits + ", told " + told, x.change(0), least);
                CHECK.due("theirs " + bits + ", told " + told, x.change(1), least);
            }
        }
        PlanValues x = sides("o");
        way(x, 0, 2, 0);
        x.act(0, 4);
        CHECK.due("the same worth by other ways", x.change(0), 0);
        x.share(0, 1);
        CHECK.due("not so without a share", x.change(0), 1);
    }

    private static void promise14ChangeInItsPlaceAlone() {
        CHECK.about("Promise 14: The ACT of a STATE with which in its place THE TOLD PLAN would give ..");
        PlanValues x = sides("oo");
        way(x, 0, 0, 1);
        x.act(0, 5);
        x.act(1, 0);
        x.act(1, 50);
        CHECK.due("the other is as told, not as it could be", x.change(0), 1);
        x.tell(1, 1);
        CHECK.due("told another it is", x.change(0), 0);
        CHECK.due("a state of one act", changeOfOne(), 0);
        CHECK.due("nothing is told by it", x.tell(0, 0), 0);
        way(x, 0, 13, 0);
        CHECK.due("by itself for ever: 26 above 25", x.change(0), 2);
        x.pay(0, 2, 12);
        CHECK.due("by itself for ever: 24 below 25", x.change(0), 0);
    }

    private static int changeOfOne() {
        PlanValues x = sides("t");
        x.act(0, 50);
        return x.change(0);
    }

    private static void promise15WithinZero() {
        CHECK.about("Promise 15: n ACTS (0 .. 5; 0: it is 0 then)");
        PlanValues x = Examples.full();
        for (int state = 0; state < 5; state++) {
            x.worth(state);
            CHECK.answer("0 of state " + state, x, x.within(state, 0), 0, 1);
        }
    }

    private static void promise15WithinOne() {
        CHECK.about("Promise 15: the VALUE of a STATE when all ends behind n ACTS");
        PlanValues x = Examples.full();
        int[] due = {8, -33, 42, -42, 47};
        for (int state = 0; state < 5; state++) {
            CHECK.answer("1 of state " + state, x, x.within(state, 1), due[state], 1);
        }
    }

    private static void promise15WithinOneOfThree() {
        CHECK.about("Promise 15: each ACT chosen as OURS, THEIRS like to");
        int[][] orders = {{1, 2, 3}, {1, 3, 2}, {2, 1, 3}, {2, 3, 1}, {3, 1, 2}, {3, 2, 1}};
        for (int[] pays : orders) {
            PlanValues x = sides("ot");
            for (int pay : pays) {
                x.act(0, pay);
                x.act(1, pay);
            }
            CHECK.answer("the greatest of three", x, x.within(0, 1), 3, 1);
            CHECK.answer("the least of three", x, x.within(1, 1), 1, 1);
        }
    }

    private static void promise15WithinFive() {
        CHECK.about("Promise 15: n ACTS (0 .. 5) .. THE SHARE counts.");
        PlanValues x = sides("ot");
        x.share(5, 6);
        way(x, 0, 50, 0);
        way(x, 1, -50, 1);
        // 50 times 1, 1 + 5/6, 1 + 5/6 + 25/36, ..
        long[] upper = {0, 50, 275, 2275, 16775, 116275};
        long[] lower = {1, 1, 3, 18, 108, 648};
        for (int n = 0; n <= 5; n++) {
            CHECK.answer("ours " + n, x, x.within(0, n), upper[n], lower[n]);
            CHECK.answer("theirs " + n, x, x.within(1, n), -upper[n], lower[n]);
        }
    }

    private static void promise15WithinEndsEarlier() {
        CHECK.about("Promise 15: when all ends behind n ACTS (nothing of an ACT with TOTAL 0; a STATE without ACTS is 0)");
        PlanValues x = sides("oto");
        way(x, 0, 8, 1);
        x.act(1, 4);
        CHECK.answer("1", x, x.within(0, 1), 8, 1);
        for (int n = 2; n <= 5; n++) {
            CHECK.answer("no more than two acts", x, x.within(0, n), 10, 1);
        }
        x.weight(1, 0, 2, 6);
        for (int n = 2; n <= 5; n++) {
            CHECK.answer("into a state without acts", x, x.within(0, n), 10, 1);
            CHECK.answer("in it", x, x.within(2, n), 0, 1);
        }
    }

    /** A last ACT that pays much is taken when it is the last, not before: no one PLAN does so. */
    private static void promise15WhateverWasChosenBefore() {
        CHECK.about("Promise 15: each ACT chosen as OURS, THEIRS like to, whatever was chosen before");
        PlanValues x = sides("ot");
        way(x, 0, 10, 1);
        x.act(0, 12);
        way(x, 1, -10, 0);
        x.act(1, -12);
        long[] ours = {0, 12, 12, 12};
        long[] theirs = {0, -12, -12, -12};
        for (int n = 0; n <= 3; n++) {
            CHECK.answer("ours " + n, x, x.within(0, n), ours[n], 1);
            CHECK.answer("theirs " + n, x, x.within(1, n), theirs[n], 1);
        }
        x.weight(0, 0, 1, 0);
        x.weight(0, 0, 0, 6);
        CHECK.answer("at the last", x, x.within(0, 1), 12, 1);
        CHECK.answer("10 before it", x, x.within(0, 2), 16, 1);
        CHECK.answer("twice before it", x, x.within(0, 3), 18, 1);
        CHECK.answer("four times before it", x, x.within(0, 5), 39, 2);
        x.tell(0, 1);
        CHECK.answer("what is told does not count", x, x.within(0, 5), 39, 2);
    }

    private static void promise15WithinWithoutShare() {
        CHECK.about("Promise 15: THE SHARE counts.");
        PlanValues x = sides("o");
        way(x, 0, 9, 0);
        x.share(0, 1);
        CHECK.answer("0 acts", x, x.within(0, 0), 0, 1);
        for (int n = 1; n <= 5; n++) {
            CHECK.answer("only the first counts", x, x.within(0, n), 9, 1);
        }
    }

    private static void promise16RunEnds() {
        CHECK.about("Promise 16: behind an ACT with TOTAL 0, and in a STATE without ACTS, PAYS are 0");
        PlanValues x = sides("oto");
        CHECK.answer("without acts", x, x.run(0), 0, 1);
        x.act(0, 50);
        CHECK.answer("paid but once", x, x.run(0), 0, 1);
        way(x, 1, -50, 0);
        CHECK.answer("paid but twice", x, x.run(1), 0, 1);
        x.weight(0, 0, 2, 1);
        CHECK.answer("into a state without acts", x, x.run(1), 0, 1);
        x.weight(0, 0, 0, 5);
        CHECK.answer("there at last, though it stays mostly", x, x.run(0), 0, 1);
        x.weight(0, 0, 2, 0);
        CHECK.answer("never there", x, x.run(0), 50, 1);
        CHECK.answer("never there", x, x.run(1), 50, 1);
        x.tell(1, 0);
        x.act(1, 7);
        x.tell(1, 1);
        CHECK.answer("told to end", x, x.run(1), 0, 1);
        CHECK.answer("the others go on", x, x.run(0), 50, 1);
    }

    /** The n-th PAY goes up and down for ever here; the mean does not. */
    private static void promise16RunRound() {
        CHECK.about("Promise 16: the sum of the first n PAYS by THE TOLD PLAN, divided by n .. as n grows without end");
        for (int size = 1; size <= 5; size++) {
            PlanValues x = sides("otoot".substring(0, size));
            long sum = 0;
            for (int state = 0; state < size; state++) {
                int pay = state * state * 3 - 20;
                sum += pay;
                way(x, state, pay, (state + 1) % size);
            }
            Ratio due = Ratio.of(sum, size);
            for (int state = 0; state < size; state++) {
                CHECK.answer("round " + size, x, x.run(state), due.upper.longValueExact(), due.lower.longValueExact());
            }
        }
    }

    private static void promise16RunOfFiveStates() {
        CHECK.about("Promise 16: what the sum .. comes to in the mean from a STATE");
        PlanValues x = sides("ototo");
        for (int state = 0; state < 5; state++) {
            way(x, state, 50 - 25 * state, state);
        }
        for (int state = 0; state < 5; state++) {
            CHECK.answer("each stays", x, x.run(state), 50 - 25 * state, 1);
        }
        for (int state = 0; state < 4; state++) {
            x.weight(state, 0, state + 1, 1);
            CHECK.answer("into the next one", x, x.run(state), 25 - 25 * state, 1);
            x.weight(state, 0, state + 1, 0);
        }
        for (int to = 0; to < 5; to++) {
            x.weight(2, 0, to, 1);
        }
        CHECK.answer("into four that stay, 50, 25, -25 and -50", x, x.run(2), 0, 1);
        x.weight(2, 0, 0, 2);
        CHECK.answer("the first twice", x, x.run(2), 10, 1);
    }

    private static void promise16RunOnTheWay() {
        CHECK.about("Promise 16: as n grows without end");
        PlanValues x = sides("ootto");
        way(x, 0, 50, 1);
        way(x, 1, 50, 2);
        way(x, 2, 50, 3);
        way(x, 3, 50, 4);
        way(x, 4, -1, 4);
        for (int state = 0; state < 5; state++) {
            CHECK.answer("what comes on the way does not count", x, x.run(state), -1, 1);
        }
        x.weight(4, 0, 3, 5);
        for (int state = 0; state < 5; state++) {
            CHECK.answer("five times there for six times here", x, x.run(state), 244, 11);
        }
    }

    private static void promise16RunWhateverTheShare() {
        CHECK.about("Promise 16: THE SHARE does not count.");
        PlanValues x = sides("ot");
        way(x, 0, 3, 1);
        way(x, 1, 4, 0);
        for (int d = 1; d <= 6; d++) {
            for (int u = 0; u < d; u++) {
                x.share(u, d);
                CHECK.answer("by " + u + " / " + d, x, x.run(0), 7, 2);
            }
        }
    }

    private static void promise17SettledWithNothing() {
        CHECK.about("Promise 17: Whether THE TOLD PLAN has the VALUE of each STATE as its WORTH: 1, 0.");
        PlanValues x = new PlanValues();
        CHECK.due("no states", x.settled(), 1);
        x.state(true);
        x.state(false);
        CHECK.due("no acts", x.settled(), 1);
        x.act(0, -50);
        CHECK.due("no choice", x.settled(), 1);
        x.act(0, -49);
        CHECK.due("the first is best", x.settled(), 1);
        x.tell(0, 1);
        CHECK.due("the second is not", x.settled(), 0);
    }

    private static void promise17SettledByTies() {
        CHECK.about("Promise 17: Whether THE TOLD PLAN has the VALUE of each STATE as its WORTH");
        PlanValues x = sides("ot");
        for (int state = 0; state < 2; state++) {
            way(x, state, 3, state);
            x.act(state, 6);
            way(x, state, 3, 1 - state);
        }
        for (int plan = 0; plan < 9; plan++) {
            x.tell(0, plan % 3);
            x.tell(1, plan / 3);
            CHECK.due("all plans have it", x.settled(), 1);
        }
        x.pay(1, 2, 4);
        CHECK.due("one more than the least of theirs", x.settled(), 0);
        x.tell(1, 1);
        CHECK.due("the others have it still", x.settled(), 1);
    }

    private static void promise17SettledNeedsEachState() {
        CHECK.about("Promise 17: the VALUE of each STATE");
        PlanValues x = sides("ototo");
        for (int state = 0; state < 5; state++) {
            x.act(state, 1);
            x.act(state, 1);
        }
        for (int state = 0; state < 5; state++) {
            CHECK.due("all are alike", x.settled(), 1);
            x.pay(state, 1, state % 2 == 0 ? 2 : 0);
            CHECK.due("state " + state + " alone is not", x.settled(), 0);
            x.tell(state, 1);
            CHECK.due("until it is told", x.settled(), 1);
            x.pay(state, 1, state % 2 == 0 ? 0 : 2);
            CHECK.due("nor is it then", x.settled(), 0);
            x.tell(state, 0);
        }
    }

    /** One ACT for each STATE: its PAY, then its WEIGHTS; THE SHARE is 1 / 6, which makes the greatest numbers. */
    private static void promise18And19Greatest() {
        CHECK.about("Promise 18, 19: long upper(), long lower()");
        int[][] worth = {{49, 0, 1, 0, 3, 2}, {-48, 3, 0, 0, 1, 1}, {-50, 2, 1, 1, 2, 0}, {-48, 0, 1, 3, 1, 1}, {-48, 1, 1, 0, 4, 0}};
        PlanValues x = oneActEach(worth);
        CHECK.answer("worth, beyond an int", x, x.worth(3), -2668277772L, 46892875);
        CHECK.answer("value", x, x.value(3), -2668277772L, 46892875);
        CHECK.answer("comes", x, x.comes(3, 0), -2668277772L, 46892875);
        CHECK.answer("reply", x, x.reply(3, 0), -2668277772L, 46892875);
        CHECK.answer("reply", x, x.reply(3, 1), -2668277772L, 46892875);
        int[][] within = {{49, 1, 2, 1, 0, 0}, {50, 2, 1, 2, 0, 1}, {50, 0, 1, 1, 1, 2}, {50, 1, 1, 0, 3, 0}, {50, 1, 0, 2, 1, 2}};
        x = oneActEach(within);
        CHECK.answer("within, far beyond an int", x, x.within(4, 5), 100709624209L, 1679616000);
    }

    private static PlanValues oneActEach(int[][] acts) {
        PlanValues x = sides("ototo");
        x.share(1, 6);
        for (int state = 0; state < 5; state++) {
            x.act(state, acts[state][0]);
            for (int to = 0; to < 5; to++) {
                x.weight(state, 0, to, acts[state][to + 1]);
            }
        }
        return x;
    }

    private static void promise20ToldLeast() {
        CHECK.about("Promise 20: How many: 0 STATES, 1 ACTS, 2 PLANS, 3 PLANS for which .., 4 STATES that are THEIRS.");
        PlanValues x = new PlanValues();
        int[] due = {0, 0, 1, 1, 0};
        for (int what = 0; what < 5; what++) {
            CHECK.due("of nothing, " + what, x.told(what), due[what]);
        }
        x.state(false);
        CHECK.due("a state", x.told(0), 1);
        CHECK.due("no act", x.told(1), 0);
        CHECK.due("one plan, which has none", x.told(2), 1);
        CHECK.due("its worths are the values", x.told(3), 1);
        CHECK.due("none theirs", x.told(4), 0);
    }

    private static void promise20ToldGreatest() {
        CHECK.about("Promise 20: How many: 0 STATES, 1 ACTS, 2 PLANS, 3 PLANS for which .., 4 STATES that are THEIRS.");
        PlanValues x = sides("ttttt");
        for (int place = 0; place < 15; place++) {
            x.act(place % 5, -50);
        }
        int[] due = {5, 15, 243, 243, 5};
        for (int what = 0; what < 5; what++) {
            CHECK.due("of all, " + what, x.told(what), due[what]);
        }
        int best = 243;
        for (int state = 0; state < 5; state++) {
            x.pay(state, 1, -49);
            best = best / 3 * 2;
            CHECK.due("two of three are best", x.told(3), best);
            x.pay(state, 0, -49);
            best /= 2;
            CHECK.due("one of three is best", x.told(3), best);
        }
        CHECK.due("the plans are as many", x.told(2), 243);
    }
}
