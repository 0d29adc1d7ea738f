/** The sentences of 'What it is' and 'Terms' that name a boundary, each with a test of its own. */
public final class TermsEdgesTest {
    private static final Check CHECK = new Check();

    public static void main(String[] args) {
        usedFor512Calls();
        usedFor512CallsOfTheDearestKind();
        usedFor512CallsWithClear();
        statesFiveAtMost();
        eachIsOursOrTheirs();
        actsThreeAtMost();
        payRange();
        weightRange();
        weightZeroAtFirst();
        weightForEachState();
        totalSixAtMost();
        totalIsOfOneAct();
        shareRange();
        shareAtFirst();
        planForEachStateThatHasSome();
        worthIsThePayAndTheShare();
        nothingOfAnActWithTotalZero();
        stateWithoutActsIsZero();
        justOneWorth();
        toldPlanAtFirstActZero();
        toldPlanHasTheLastTold();
        valueWhateverTheirsAre();
        valueLeastIsTheSame();
        comesToByValues();
        bestIfItIsTheValue();
        answerInLowestTerms();
        answerLowerAboveZero();
        answerZeroIsZeroByOne();
        answerAtFirst();
        answerCallsAnswerOne();
        otherCallsLeaveTheAnswer();
        CHECK.end("TermsEdgesTest");
    }

    /** A STATE with one ACT that stays where it is: its WORTH is the PAY times d / (d - u). */
    private static PlanValues staying(int pay) {
        PlanValues x = new PlanValues();
        x.state(false);
        x.act(0, pay);
        x.weight(0, 0, 0, 1);
        return x;
    }

    private static void usedFor512Calls() {
        CHECK.about("An object is used for at most 512 calls after it has been made");
        PlanValues x = new PlanValues();
        CHECK.due("call 1", x.state(false), 0);
        CHECK.due("call 2", x.act(0, 1), 0);
        CHECK.due("call 3", x.weight(0, 0, 0, 1), 0);
        for (int call = 4; call <= 508; call += 3) {
            int pay = call % 101 - 50;
            x.pay(0, 0, pay);
            CHECK.due("call " + (call + 1), x.worth(0), 1);
            CHECK.due("call " + (call + 2), x.upper(), 2L * pay);
        }
        CHECK.due("call 511", x.lower(), 1);
        CHECK.due("call 512", x.state(true), 1);
    }

    private static void usedFor512CallsOfTheDearestKind() {
        CHECK.about("An object is used for at most 512 calls after it has been made");
        PlanValues x = Examples.full();
        x.value(0);
        long upper = x.upper();
        long lower = x.lower();
        // The example itself takes 102 calls.
        for (int call = 106; call <= 501; call += 5) {
            x.pay(0, 2, call % 101 - 50);
            x.share(call % 6, 6);
            x.value(call % 4);
            x.pay(0, 2, 8);
            x.share(5, 6);
        }
        CHECK.due("call 506", x.told(1), 15);
        CHECK.due("call 507", x.told(2), 243);
        CHECK.due("call 508", x.settled(), 0);
        CHECK.due("call 509", x.told(5), -2);
        CHECK.due("call 510", x.value(0), 1);
        CHECK.due("call 511", x.upper(), upper);
        CHECK.due("call 512", x.lower(), lower);
    }

    private static void usedFor512CallsWithClear() {
        CHECK.about("An object is used for at most 512 calls after it has been made");
        PlanValues x = new PlanValues();
        for (int call = 1; call <= 512; call += 8) {
            CHECK.due("state", x.state(true), 0);
            CHECK.due("act", x.act(0, call % 50), 0);
            CHECK.due("weight", x.weight(0, 0, 0, 6), 0);
            CHECK.due("tell", x.tell(0, 0), 0);
            CHECK.due("value", x.value(0), 1);
            CHECK.due("upper", x.upper(), 2L * (call % 50));
            CHECK.due("told", x.told(0), 1);
            x.clear();
        }
    }

    private static void statesFiveAtMost() {
        CHECK.about("STATES have numbers from 0, 5 at most");
        PlanValues x = new PlanValues();
        CHECK.due("no state at first", x.value(0), -1);
        for (int state = 0; state < 5; state++) {
            CHECK.due("its number", x.state(false), state);
            CHECK.due("it is known", x.value(state), 1);
            CHECK.due("the next is not", x.value(state + 1), -1);
        }
        CHECK.due("a sixth", x.state(false), -4);
        CHECK.due("is not there", x.value(5), -1);
        for (int state = 0; state < 5; state++) {
            CHECK.due("an act of each", x.act(state, 10 + state), 0);
            CHECK.due("from each to the last", x.weight(state, 0, 4, 1), 0);
        }
        for (int state = 0; state < 4; state++) {
            CHECK.answer("to the last", x, x.worth(state), 24 + state, 1);
        }
        CHECK.answer("the last", x, x.worth(4), 28, 1);
    }

    private static void eachIsOursOrTheirs() {
        CHECK.about("each is OURS or THEIRS");
        for (int sides = 0; sides < 32; sides++) {
            PlanValues x = new PlanValues();
            for (int state = 0; state < 5; state++) {
                x.state((sides >> state & 1) == 1);
                x.act(state, -state);
                x.act(state, state + 1);
            }
            CHECK.due("how many are theirs", x.told(4), Integer.bitCount(sides));
            for (int state = 0; state < 5; state++) {
                boolean theirs = (sides >> state & 1) == 1;
                CHECK.answer("for the most or the least", x, x.value(state), theirs ? -state : state + 1, 1);
            }
        }
    }

    private static void actsThreeAtMost() {
        CHECK.about("A STATE has ACTS with numbers from 0, 3 at most");
        PlanValues x = new PlanValues();
        for (int state = 0; state < 5; state++) {
            x.state(state == 2);
        }
        for (int act = 0; act < 3; act++) {
            for (int state = 4; state >= 0; state--) {
                CHECK.due("not there yet", x.comes(state, act), -1);
                CHECK.due("its number", x.act(state, 10 * state + act), act);
                CHECK.due("it is there", x.comes(state, act), 1);
            }
        }
        for (int state = 0; state < 5; state++) {
            CHECK.due("a fourth", x.act(state, 0), -4);
            CHECK.due("is not there", x.comes(state, 3), -1);
            for (int act = 0; act < 3; act++) {
                CHECK.answer("each has its own", x, x.comes(state, act), 10 * state + act, 1);
            }
        }
    }

    private static void payRange() {
        CHECK.about("an ACT has a PAY (-50 .. 50)");
        for (int pay = -53; pay <= 53; pay++) {
            boolean inside = pay >= -50 && pay <= 50;
            PlanValues x = new PlanValues();
            x.state(true);
            CHECK.due("an act with " + pay, x.act(0, pay), inside ? 0 : -2);
            CHECK.due("then it is there or not", x.told(1), inside ? 1 : 0);
            x.clear();
            x.state(true);
            x.act(0, 1);
            CHECK.due("pay becomes " + pay, x.pay(0, 0, pay), inside ? 51 : -2);
            CHECK.answer("then it is so or not", x, x.value(0), inside ? pay : 1, 1);
        }
    }

    private static void weightRange() {
        CHECK.about("a WEIGHT (0 .. 6; 0 at first)");
        for (int w = -3; w <= 9; w++) {
            boolean inside = w >= 0 && w <= 6;
            PlanValues x = staying(1);
            CHECK.due("weight becomes " + w, x.weight(0, 0, 0, w), inside ? 1 : -2);
            CHECK.due("then it is so or not", x.weight(0, 0, 0, 0), inside ? w : 1);
        }
    }

    private static void weightZeroAtFirst() {
        CHECK.about("a WEIGHT (0 .. 6; 0 at first)");
        PlanValues x = new PlanValues();
        for (int state = 0; state < 5; state++) {
            x.state(false);
            x.act(state, 1);
            x.act(state, 2);
            x.act(state, 3);
        }
        for (int place = 0; place < 75; place++) {
            CHECK.due("at first", x.weight(place / 15, place / 5 % 3, place % 5, 1), 0);
        }
        for (int place = 0; place < 75; place++) {
            CHECK.due("each by itself", x.weight(place / 15, place / 5 % 3, place % 5, 0), 1);
        }
    }

    private static void weightForEachState() {
        CHECK.about("for each STATE, a WEIGHT (0 .. 6; 0 at first)");
        PlanValues x = staying(8);
        for (int later = 1; later < 5; later++) {
            CHECK.due("not for one that is not there", x.weight(0, 0, later, 1), -1);
            x.state(true);
            CHECK.due("0 for one made later than the act", x.weight(0, 0, later, 1), 0);
        }
        CHECK.answer("a fifth of the walks stays", x, x.worth(0), 80, 9);
    }

    private static void totalSixAtMost() {
        CHECK.about("its TOTAL is the sum of these, 6 at most");
        for (int first = 0; first <= 6; first++) {
            for (int second = 0; second <= 6; second++) {
                PlanValues x = staying(1);
                x.state(false);
                x.weight(0, 0, 0, first);
                boolean fits = first + second <= 6;
                CHECK.due(first + " and " + second, x.weight(0, 0, 1, second), fits ? 0 : -2);
                CHECK.due("then it is so or not", x.weight(0, 0, 1, 0), fits ? second : 0);
                CHECK.due("the other stays", x.weight(0, 0, 0, 6), first);
                CHECK.due("what it was does not count", x.weight(0, 0, 0, 6), 6);
                CHECK.due("then all is full", x.weight(0, 0, 1, 1), -2);
                CHECK.due("but 0 fits", x.weight(0, 0, 1, 0), 0);
                CHECK.due("less makes room", x.weight(0, 0, 0, 5), 6);
                CHECK.due("for 1", x.weight(0, 0, 1, 1), 0);
                CHECK.due("and no more", x.weight(0, 0, 1, 2), -2);
            }
        }
    }

    private static void totalIsOfOneAct() {
        CHECK.about("its TOTAL is the sum of these, 6 at most");
        PlanValues x = new PlanValues();
        for (int state = 0; state < 5; state++) {
            x.state(false);
        }
        int[] split = {1, 2, 1, 1, 1};
        for (int state = 0; state < 5; state++) {
            for (int act = 0; act < 3; act++) {
                x.act(state, 0);
                for (int to = 0; to < 5; to++) {
                    CHECK.due("each act has its own 6", x.weight(state, act, to, split[to]), 0);
                }
                for (int to = 0; to < 5; to++) {
                    CHECK.due("7 by any of them", x.weight(state, act, to, split[to] + 1), -2);
                }
            }
        }
    }

    private static void shareRange() {
        CHECK.about("THE SHARE is u / d, with d from 1 to 6 and u from 0 to d - 1");
        PlanValues x = staying(7);
        int asked = 0;
        for (int d = -2; d <= 9; d++) {
            for (int u = -2; u <= 9; u++) {
                boolean inside = d >= 1 && d <= 6 && u >= 0 && u <= d - 1;
                CHECK.due("share(" + u + ", " + d + ")", x.share(u, d), inside ? 1 : -2);
                if (inside) {
                    Ratio due = Ratio.of(7L * d, d - u);
                    CHECK.answer(u + " / " + d, x, x.worth(0), due.upper.longValueExact(), due.lower.longValueExact());
                    asked++;
                }
            }
        }
        CHECK.due("so many are inside", asked, 21);
    }

    private static void shareAtFirst() {
        CHECK.about("THE SHARE is u / d .. (at first 1 / 2)");
        PlanValues x = staying(7);
        CHECK.answer("half is stayed for", x, x.worth(0), 14, 1);
        CHECK.answer("half counts once", x, x.within(0, 2), 21, 2);
        CHECK.answer("value", x, x.value(0), 14, 1);
        CHECK.answer("comes", x, x.comes(0, 0), 14, 1);
    }

    private static void planForEachStateThatHasSome() {
        CHECK.about("A PLAN has an ACT for each STATE that has some.");
        int[][] acts = {{}, {0}, {0, 0, 0, 0, 0}, {1}, {3}, {0, 3}, {3, 0}, {1, 1, 1, 1, 1}, {2, 0, 3, 0, 2}, {3, 3, 3, 3, 3}};
        int[] plans = {1, 1, 1, 1, 3, 3, 3, 1, 12, 243};
        for (int row = 0; row < acts.length; row++) {
            PlanValues x = new PlanValues();
            for (int state = 0; state < acts[row].length; state++) {
                x.state(state % 2 == 0);
                for (int act = 0; act < acts[row][state]; act++) {
                    x.act(state, 5);
                }
            }
            CHECK.due("plans of row " + row, x.told(2), plans[row]);
            CHECK.due("all pay the same in row " + row, x.told(3), plans[row]);
        }
    }

    private static void worthIsThePayAndTheShare() {
        CHECK.about("the PAY of its ACT, and THE SHARE times the sum of WEIGHT / TOTAL times WORTH");
        PlanValues x = new PlanValues();
        int[] weights = {0, 1, 2, 3, 0};
        for (int state = 0; state < 5; state++) {
            x.state(false);
            x.act(state, 12 * state - 7);
        }
        for (int to = 0; to < 5; to++) {
            x.weight(0, 0, to, weights[to]);
        }
        CHECK.answer("-7 and a half of 5 / 6, 34 / 6 and 87 / 6", x, x.worth(0), 7, 2);
        x.share(2, 3);
        CHECK.answer("-7 and two thirds of them", x, x.worth(0), 7, 1);
        x.share(0, 1);
        CHECK.answer("-7 and nothing", x, x.worth(0), -7, 1);
    }

    private static void nothingOfAnActWithTotalZero() {
        CHECK.about("(nothing of an ACT with TOTAL 0)");
        PlanValues x = staying(9);
        x.share(5, 6);
        x.weight(0, 0, 0, 0);
        CHECK.answer("worth", x, x.worth(0), 9, 1);
        CHECK.answer("value", x, x.value(0), 9, 1);
        CHECK.answer("comes", x, x.comes(0, 0), 9, 1);
        CHECK.answer("within", x, x.within(0, 5), 9, 1);
        CHECK.answer("reply", x, x.reply(0, 0), 9, 1);
        CHECK.due("best", x.best(0), 1);
        CHECK.due("change", x.change(0), 0);
        CHECK.due("settled", x.settled(), 1);
        x.weight(0, 0, 0, 1);
        CHECK.answer("with total 1", x, x.worth(0), 54, 1);
        x.act(0, 10);
        CHECK.answer("its other act", x, x.comes(0, 1), 10, 1);
    }

    private static void stateWithoutActsIsZero() {
        CHECK.about("of a STATE without ACTS it is 0");
        for (int row = 0; row < 2; row++) {
            PlanValues x = staying(6);
            x.state(row == 1);
            x.worth(0);
            CHECK.answer("worth", x, x.worth(1), 0, 1);
            x.worth(0);
            CHECK.answer("value", x, x.value(1), 0, 1);
            x.worth(0);
            CHECK.answer("reply", x, x.reply(1, row), 0, 1);
            x.worth(0);
            CHECK.answer("within", x, x.within(1, 5), 0, 1);
            x.worth(0);
            CHECK.answer("run", x, x.run(1), 0, 1);
            x.weight(0, 0, 1, 1);
            CHECK.answer("half of the walks end there", x, x.worth(0), 8, 1);
            CHECK.answer("so do those by values", x, x.value(0), 8, 1);
            CHECK.due("all is settled", x.settled(), 1);
            CHECK.due("by the only plan", x.told(3), 1);
            x.act(1, 0);
            CHECK.answer("as in one that pays nothing", x, x.worth(0), 8, 1);
        }
    }

    private static void justOneWorth() {
        CHECK.about("(There is just one WORTH of each STATE so.)");
        for (int pay : new int[] {-50, -1, 0, 1, 50}) {
            PlanValues x = staying(pay);
            x.share(5, 6);
            CHECK.answer("the greatest share", x, x.worth(0), 6L * pay, 1);
            x.share(0, 6);
            CHECK.answer("no share", x, x.worth(0), pay, 1);
        }
        PlanValues x = new PlanValues();
        for (int state = 0; state < 5; state++) {
            x.state(state > 1);
            x.act(state, state == 0 ? 31 : 0);
        }
        for (int state = 0; state < 5; state++) {
            x.weight(state, 0, (state + 1) % 5, 2);
        }
        for (int state = 0; state < 5; state++) {
            // 31 comes once in five steps: 31 / (1 - 1 / 32) by the way that is left to STATE 0.
            CHECK.answer("round five states", x, x.worth(state), state == 0 ? 32 : 1 << state, 1);
        }
    }

    private static void toldPlanAtFirstActZero() {
        CHECK.about("THE TOLD PLAN has the ACT that was told last for a STATE, at first ACT 0.");
        PlanValues x = new PlanValues();
        for (int state = 0; state < 5; state++) {
            x.state(state == 0);
            x.act(state, 1 + state);
            x.act(state, 20);
            x.act(state, -20);
            CHECK.answer("at first act 0", x, x.worth(state), 1 + state, 1);
            CHECK.due("at first act 0", x.tell(state, 2), 0);
        }
        x.clear();
        x.state(false);
        x.act(0, 1);
        x.act(0, 2);
        CHECK.answer("at first act 0 behind clear", x, x.worth(0), 1, 1);
        CHECK.due("at first act 0 behind clear", x.tell(0, 1), 0);
    }

    private static void toldPlanHasTheLastTold() {
        CHECK.about("THE TOLD PLAN has the ACT that was told last for a STATE");
        PlanValues x = new PlanValues();
        x.state(false);
        x.state(true);
        x.act(0, 5);
        x.act(0, 6);
        x.act(1, 7);
        CHECK.due("told", x.tell(0, 1), 0);
        x.act(0, 9);
        x.act(1, 3);
        CHECK.answer("a new act changes nothing", x, x.worth(0), 6, 1);
        CHECK.due("told", x.tell(0, 2), 1);
        CHECK.due("told", x.tell(0, 0), 2);
        CHECK.due("told", x.tell(0, 1), 0);
        x.pay(0, 1, -6);
        x.share(1, 3);
        x.weight(0, 1, 1, 6);
        x.value(0);
        x.best(0);
        x.change(0);
        x.reply(0, 1);
        x.settled();
        CHECK.answer("it stays whatever is changed or asked", x, x.worth(0), -11, 3);
        CHECK.due("told", x.tell(0, 1), 1);
        CHECK.due("the other", x.tell(1, 0), 0);
    }

    /** OURS goes to THEIRS for much, where they may take it all back. */
    private static void valueWhateverTheirsAre() {
        CHECK.about("the WORTH of the STATE is not below it, whatever ACTS of THEIRS are in that PLAN instead");
        PlanValues x = new PlanValues();
        x.state(false);
        x.state(true);
        x.act(0, 1);
        x.act(0, 10);
        x.weight(0, 1, 1, 1);
        x.act(1, 50);
        CHECK.answer("they have no other", x, x.value(0), 35, 1);
        x.act(1, -17);
        CHECK.answer("10 and half of -17", x, x.value(0), 3, 2);
        x.act(1, -18);
        CHECK.answer("as good as staying", x, x.value(0), 1, 1);
        CHECK.due("both are best", x.best(0), 3);
        x.pay(1, 2, -19);
        CHECK.answer("staying is safe", x, x.value(0), 1, 1);
        CHECK.due("it is best", x.best(0), 1);
        CHECK.answer("theirs", x, x.value(1), -19, 1);
    }

    /** By every PLAN that is told: what THEIRS leave to ours at most is the VALUE, and what OURS leave to theirs. */
    private static void valueLeastIsTheSame() {
        CHECK.about("(The least for which there is one such that it is not above it .. is the same.)");
        for (int seed = 0; seed < 40; seed++) {
            for (int state = 0; state < 3; state++) {
                PlanValues x = threeStates(seed);
                Ratio most = null;
                Ratio least = null;
                for (int plan = 0; plan < 27; plan++) {
                    x.tell(0, plan % 3);
                    x.tell(1, plan / 3 % 3);
                    x.tell(2, plan / 9);
                    x.reply(state, 0);
                    Ratio left = Ratio.of(x.upper(), x.lower());
                    most = most == null || left.compareTo(most) > 0 ? left : most;
                    x.reply(state, 1);
                    left = Ratio.of(x.upper(), x.lower());
                    least = least == null || left.compareTo(least) < 0 ? left : least;
                }
                CHECK.answer("the most of ours", x, x.value(state), most.upper.longValueExact(), most.lower.longValueExact());
                CHECK.that("the least of theirs", most.same(least));
            }
        }
    }

    private static PlanValues threeStates(int seed) {
        PlanValues x = new PlanValues();
        for (int state = 0; state < 3; state++) {
            x.state((seed + 1 >> state & 1) == 1);
        }
        int number = seed;
        for (int state = 0; state < 3; state++) {
            for (int act = 0; act < 3; act++) {
                x.act(state, number % 31 - 15);
                x.weight(state, act, number % 3, 1 + number % 4);
                x.weight(state, act, (number + 1) % 3, number % 3);
                number = (number * 71 + 29 * act + 13) % 1009;
            }
        }
        x.share(seed % 6, 6);
        return x;
    }

    private static void comesToByValues() {
        CHECK.about("By VALUES an ACT of a STATE comes to its PAY, and THE SHARE times the sum ..");
        PlanValues x = new PlanValues();
        x.state(true);
        x.state(false);
        x.act(0, 3);
        x.act(0, 30);
        x.act(1, 4);
        x.act(1, 40);
        x.weight(0, 1, 0, 1);
        x.weight(0, 1, 1, 2);
        CHECK.answer("30, and a half of 3 / 3 and 80 / 3", x, x.comes(0, 1), 263, 6);
        x.tell(0, 1);
        CHECK.answer("what is told does not count", x, x.comes(0, 1), 263, 6);
        x.share(0, 6);
        CHECK.answer("without a share its pay", x, x.comes(0, 1), 30, 1);
    }

    private static void bestIfItIsTheValue() {
        CHECK.about("It is BEST if that is the VALUE of its STATE.");
        for (int pay = -1; pay <= 1; pay++) {
            PlanValues x = new PlanValues();
            x.state(false);
            x.state(true);
            for (int state = 0; state < 2; state++) {
                x.act(state, 6);
                x.weight(state, 0, state, 5);
                x.act(state, 12 + pay);
            }
            CHECK.due("ours, 12 and " + (12 + pay), x.best(0), pay < 0 ? 1 : pay > 0 ? 2 : 3);
            CHECK.due("theirs, 12 and " + (12 + pay), x.best(1), pay < 0 ? 2 : pay > 0 ? 1 : 3);
        }
    }

    private static void answerInLowestTerms() {
        CHECK.about("THE ANSWER is a fraction in lowest terms");
        PlanValues x = staying(50);
        for (int w = 1; w <= 6; w++) {
            x.weight(0, 0, 0, w);
            for (int d = 1; d <= 6; d++) {
                for (int u = 0; u < d; u++) {
                    x.share(u, d);
                    x.worth(0);
                    Ratio due = Ratio.of(50L * d, d - u);
                    CHECK.held("50 by " + u + " / " + d, x, due.upper.longValueExact(), due.lower.longValueExact());
                }
            }
        }
        x.share(2, 4);
        CHECK.answer("value", x, x.value(0), 100, 1);
        CHECK.answer("comes", x, x.comes(0, 0), 100, 1);
        CHECK.answer("reply", x, x.reply(0, 0), 100, 1);
        CHECK.answer("within", x, x.within(0, 4), 375, 4);
        CHECK.answer("run", x, x.run(0), 50, 1);
    }

    private static void answerLowerAboveZero() {
        CHECK.about("its lower number above 0");
        PlanValues x = staying(-7);
        x.share(2, 5);
        CHECK.answer("worth", x, x.worth(0), -35, 3);
        CHECK.answer("value", x, x.value(0), -35, 3);
        CHECK.answer("comes", x, x.comes(0, 0), -35, 3);
        CHECK.answer("reply", x, x.reply(0, 0), -35, 3);
        CHECK.answer("reply", x, x.reply(0, 1), -35, 3);
        CHECK.answer("within", x, x.within(0, 2), -49, 5);
        x.state(true);
        x.act(1, 4);
        x.weight(0, 0, 1, 1);
        x.weight(1, 0, 0, 1);
        CHECK.answer("run", x, x.run(0), -10, 3);
    }

    private static void answerZeroIsZeroByOne() {
        CHECK.about("(0 is 0 by 1)");
        PlanValues x = new PlanValues();
        x.state(false);
        x.state(true);
        x.act(0, 1);
        x.act(1, -3);
        x.weight(0, 0, 1, 5);
        x.share(1, 3);
        x.within(1, 1);
        CHECK.answer("1 and a third of -3", x, x.worth(0), 0, 1);
        x.within(1, 1);
        CHECK.answer("value", x, x.value(0), 0, 1);
        x.within(1, 1);
        CHECK.answer("comes", x, x.comes(0, 0), 0, 1);
        x.within(1, 1);
        CHECK.answer("reply", x, x.reply(0, 0), 0, 1);
        x.within(1, 1);
        CHECK.answer("within", x, x.within(0, 5), 0, 1);
        x.weight(1, 0, 0, 1);
        x.weight(1, 0, 1, 2);
        x.pay(0, 0, 9);
        x.within(1, 1);
        CHECK.answer("run, 9 once and -3 thrice", x, x.run(0), 0, 1);
    }

    private static void answerAtFirst() {
        CHECK.about("THE ANSWER .. at first 0");
        PlanValues x = new PlanValues();
        CHECK.held("a new object", x, 0, 1);
        x.state(false);
        x.act(0, 9);
        CHECK.held("before it is asked for", x, 0, 1);
        CHECK.due("a refused one", x.value(1), -1);
        CHECK.held("before it is asked for", x, 0, 1);
    }

    private static void answerCallsAnswerOne() {
        CHECK.about("A call that tells \"ANSWER\" makes it THE ANSWER, and answers 1.");
        PlanValues x = new PlanValues();
        x.state(false);
        x.state(true);
        x.act(0, 1);
        x.act(0, 2);
        x.act(1, 5);
        x.act(1, 3);
        x.weight(0, 0, 1, 1);
        x.weight(0, 1, 0, 1);
        x.weight(1, 0, 0, 1);
        CHECK.answer("value", x, x.value(0), 4, 1);
        CHECK.answer("comes", x, x.comes(0, 0), 5, 2);
        CHECK.answer("worth", x, x.worth(0), 14, 3);
        CHECK.answer("reply 0", x, x.reply(0, 0), 5, 2);
        CHECK.answer("reply 1", x, x.reply(1, 1), 22, 3);
        CHECK.answer("within", x, x.within(0, 1), 2, 1);
        CHECK.answer("run", x, x.run(0), 3, 1);
        CHECK.answer("run once more", x, x.run(0), 3, 1);
    }

    private static void otherCallsLeaveTheAnswer() {
        CHECK.about("A call that tells \"ANSWER\" makes it THE ANSWER");
        PlanValues x = staying(-7);
        x.share(2, 5);
        x.worth(0);
        String[] calls = {"state", "act", "weight", "pay", "share", "tell", "best", "change", "settled", "told"};
        for (int call = 0; call < calls.length; call++) {
            changeOrAsk(x, call);
            CHECK.held(calls[call] + " leaves it", x, -35, 3);
        }
    }

    private static void changeOrAsk(PlanValues x, int call) {
        switch (call) {
            case 0: CHECK.due("state", x.state(true), 1); break;
            case 1: CHECK.due("act", x.act(0, 8), 1); break;
            case 2: CHECK.due("weight", x.weight(0, 0, 1, 2), 0); break;
            case 3: CHECK.due("pay", x.pay(0, 0, 1), 43); break;
            case 4: CHECK.due("share", x.share(1, 4), 1); break;
            case 5: CHECK.due("tell", x.tell(0, 1), 0); break;
            case 6: CHECK.due("best", x.best(0), 2); break;
            case 7: CHECK.due("change", x.change(0), 1); break;
            case 8: CHECK.due("settled", x.settled(), 1); break;
            default: CHECK.due("told", x.told(3), 1); break;
        }
    }
}
