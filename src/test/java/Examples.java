/** Objects that tests begin with; each call makes a new one, always the same. */
final class Examples {
    /** By ACT: the WEIGHT for the STATE itself, for the next one, and so on round. */
    private static final int[][] ROUND = {{1, 3, 0, 2, 0}, {2, 0, 3, 0, 1}, {0, 1, 1, 0, 4}};

    private Examples() {
    }

    /** No STATES. */
    static PlanValues empty() {
        return new PlanValues();
    }

    /**
     * STATE 0 is OURS with two ACTS, STATE 1 THEIRS with two, STATE 2 OURS with none; TOTALS are 6, 3,
     * 0 and 4. The second ACTS are told, THE SHARE is 2 / 3, THE ANSWER the VALUE of STATE 0.
     */
    static PlanValues some() {
        PlanValues x = new PlanValues();
        x.state(false);
        x.state(true);
        x.state(false);
        x.act(0, 8);
        x.act(0, -3);
        x.act(1, 5);
        x.act(1, -11);
        x.weight(0, 0, 0, 2);
        x.weight(0, 0, 1, 3);
        x.weight(0, 0, 2, 1);
        x.weight(0, 1, 1, 3);
        x.weight(1, 1, 0, 4);
        x.tell(0, 1);
        x.tell(1, 1);
        x.share(2, 3);
        x.value(0);
        return x;
    }

    /** Five STATES, STATES 1 and 3 THEIRS, each with three ACTS, each of these with TOTAL 6; THE SHARE is 5 / 6. */
    static PlanValues full() {
        PlanValues x = new PlanValues();
        for (int state = 0; state < 5; state++) {
            x.state(state % 2 == 1);
        }
        for (int state = 0; state < 5; state++) {
            for (int act = 0; act < 3; act++) {
                x.act(state, (17 * state + 29 * act) % 101 - 50);
                for (int ahead = 0; ahead < 5; ahead++) {
                    x.weight(state, act, (state + ahead) % 5, ROUND[act][ahead]);
                }
            }
            x.tell(state, (state + 2) % 3);
        }
        x.share(5, 6);
        x.worth(3);
        return x;
    }
}
