/**
 * All that can be asked of an object, as one row of numbers. THE ANSWER is asked first, since asking
 * for the rest changes it; PAYS, WEIGHTS and the room that is left are only told by calls that change
 * them, so they come last, and the object is of no use afterwards.
 */
final class Readout {
    /** A readout takes this many calls at most; an object has 512. */
    static final int MOST_CALLS = 365;

    private final PlanValues x;
    private final long[] row = new long[MOST_CALLS];
    private int size = 0;

    private Readout(PlanValues x) {
        this.x = x;
    }

    static long[] of(PlanValues x) {
        Readout made = new Readout(x);
        made.askAll();
        return made.row;
    }

    private void askAll() {
        put(x.upper());
        put(x.lower());
        for (int what = 0; what < 5; what++) {
            put(x.told(what));
        }
        put(x.settled());
        for (int state = 0; state < 5; state++) {
            askNumbers(state);
        }
        for (int state = 0; state < 5; state++) {
            takeApart(state);
        }
        for (int more = 0; more < 6; more++) {
            put(x.state(false));
        }
        askShare();
    }

    private void askNumbers(int state) {
        put(x.best(state));
        put(x.change(state));
        putAnswer(x.value(state));
        putAnswer(x.worth(state));
        putAnswer(x.reply(state, 0));
        putAnswer(x.reply(state, 1));
        putAnswer(x.run(state));
        for (int n = 0; n <= 5; n++) {
            putAnswer(x.within(state, n));
        }
        for (int act = 0; act < 3; act++) {
            putAnswer(x.comes(state, act));
        }
    }

    private void takeApart(int state) {
        put(x.tell(state, 0));
        for (int act = 0; act < 3; act++) {
            put(x.pay(state, act, act));
            for (int to = 0; to < 5; to++) {
                put(x.weight(state, act, to, 0));
            }
        }
        for (int more = 0; more < 4; more++) {
            put(x.act(state, 10 + more));
        }
        // No ACT leads anywhere now and the last one pays most, so that this tells OURS from THEIRS.
        put(x.best(state));
    }

    private void askShare() {
        put(x.act(0, 50));
        put(x.pay(0, 0, 50));
        put(x.weight(0, 0, 0, 1));
        put(x.tell(0, 0));
        putAnswer(x.worth(0));
    }

    private void putAnswer(int told) {
        put(told);
        put(x.upper());
        put(x.lower());
    }

    private void put(long number) {
        row[size] = number;
        size++;
    }
}
