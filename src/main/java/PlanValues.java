import java.util.Arrays;

/**
 * Walks whose next ACTS are chosen, OURS for the most, THEIRS for the least. The words in capitals
 * are the document's. All numbers are whole numbers over a common lower one, so every answer is
 * exact; the comments tell why none of them outgrows a long.
 */
public final class PlanValues {
    public static final int NONE = -1;

    private static final int OUTSIDE = -2;
    private static final int NOT_SO = -3;
    private static final int NO_ROOM = -4;

    private static final int MOST_STATES = 5;
    private static final int MOST_ACTS = 3;
    private static final int MOST_PLANS = 243;
    private static final int MOST_PAY = 50;
    private static final int MOST_TOTAL = 6;
    private static final int MOST_SHARE_LOWER = 6;
    private static final int MOST_WITHIN = 5;

    /** Every TOTAL from 1 to 6 divides it, so that all ACTS come to numbers over the same lower one. */
    private static final int ALL_TOTALS = 60;

    private final Walks walks = new Walks();
    private final PlanWorths worths = new PlanWorths();
    private final LongRun longRun = new LongRun();
    private final Numbers stepNumbers = new Numbers();
    private final long[] nextNumbers = new long[MOST_STATES];
    private final int[] toldPlan = new int[MOST_STATES];
    /** The PLAN that had the VALUES last: the next search is short if it begins there. */
    private final int[] valuePlan = new int[MOST_STATES];
    private final int[] trialPlan = new int[MOST_STATES];
    private long answerUpper = 0;
    private long answerLower = 1;

    public PlanValues() {
    }

    public void clear() {
        walks.forget();
        Arrays.fill(toldPlan, 0);
        Arrays.fill(valuePlan, 0);
        answerUpper = 0;
        answerLower = 1;
    }

    public int state(boolean theirs) {
        if (walks.states >= MOST_STATES) {
            return NO_ROOM;
        }
        return walks.addState(theirs);
    }

    public int act(int state, int pay) {
        if (!walks.hasState(state)) {
            return NONE;
        }
        if (!isPay(pay)) {
            return OUTSIDE;
        }
        if (walks.acts[state] >= MOST_ACTS) {
            return NO_ROOM;
        }
        return walks.addAct(state, pay);
    }

    public int weight(int state, int act, int to, int w) {
        if (!walks.hasAct(state, act) || !walks.hasState(to)) {
            return NONE;
        }
        if (w < 0 || w > MOST_TOTAL) {
            return OUTSIDE;
        }
        int slot = Walks.slotOf(state, act);
        int was = walks.weights[slot][to];
        int total = walks.totals[slot] - was + w;
        if (total > MOST_TOTAL) {
            return OUTSIDE;
        }
        walks.weights[slot][to] = w;
        walks.totals[slot] = total;
        return was;
    }

    public int pay(int state, int act, int v) {
        if (!walks.hasAct(state, act)) {
            return NONE;
        }
        if (!isPay(v)) {
            return OUTSIDE;
        }
        int slot = Walks.slotOf(state, act);
        int was = walks.pays[slot];
        walks.pays[slot] = v;
        return was + MOST_PAY;
    }

    public int share(int u, int d) {
        if (d < 1 || d > MOST_SHARE_LOWER || u < 0 || u >= d) {
            return OUTSIDE;
        }
        walks.shareUpper = u;
        walks.shareLower = d;
        return 1;
    }

    public int tell(int state, int act) {
        if (!walks.hasAct(state, act)) {
            return NONE;
        }
        int was = toldPlan[state];
        toldPlan[state] = act;
        return was;
    }

    public int value(int state) {
        if (!walks.hasState(state)) {
            return NONE;
        }
        worths.findValues(walks, valuePlan);
        return giveAnswer(worths.numbers.uppers[state], worths.numbers.lower);
    }

    public int comes(int state, int act) {
        if (!walks.hasAct(state, act)) {
            return NONE;
        }
        worths.findValues(walks, valuePlan);
        long upper = walks.comesTo(Walks.slotOf(state, act), worths.numbers);
        return giveAnswer(upper, worths.numbers.lower * walks.stepScale());
    }

    public int best(int state) {
        if (!walks.hasState(state)) {
            return NONE;
        }
        worths.findValues(walks, valuePlan);
        return bestBits(state);
    }

    public int worth(int state) {
        if (!walks.hasState(state)) {
            return NONE;
        }
        worths.follow(walks, toldPlan);
        return giveAnswer(worths.numbers.uppers[state], worths.numbers.lower);
    }

    public int reply(int state, int side) {
        if (!walks.hasState(state)) {
            return NONE;
        }
        if (side != 0 && side != 1) {
            return OUTSIDE;
        }
        tryToldPlan();
        worths.replyBy(side == 0, walks, trialPlan);
        return giveAnswer(worths.numbers.uppers[state], worths.numbers.lower);
    }

    public int change(int state) {
        if (!walks.hasState(state)) {
            return NONE;
        }
        if (walks.acts[state] == 0) {
            return NOT_SO;
        }
        tryToldPlan();
        int chosen = 0;
        long chosenUpper = 0;
        long chosenLower = 1;
        for (int act = 0; act < walks.acts[state]; act++) {
            trialPlan[state] = act;
            worths.follow(walks, trialPlan);
            long upper = worths.numbers.uppers[state];
            long lower = worths.numbers.lower;
            // A lower number is at most 36^5, a WORTH at most 300: the products stay below 2^61.
            if (act == 0 || walks.likes(state, upper * chosenLower, chosenUpper * lower)) {
                chosen = act;
                chosenUpper = upper;
                chosenLower = lower;
            }
        }
        return chosen;
    }

    public int within(int state, int n) {
        if (!walks.hasState(state)) {
            return NONE;
        }
        if (n < 0 || n > MOST_WITHIN) {
            return OUTSIDE;
        }
        Arrays.fill(stepNumbers.uppers, 0L);
        stepNumbers.lower = 1;
        for (int step = 0; step < n; step++) {
            stepBack();
        }
        return giveAnswer(stepNumbers.uppers[state], stepNumbers.lower);
    }

    public int run(int state) {
        if (!walks.hasState(state)) {
            return NONE;
        }
        longRun.follow(walks, toldPlan);
        return giveAnswer(longRun.numbers.uppers[longRun.homes[state]], longRun.numbers.lower);
    }

    public int settled() {
        worths.findValues(walks, valuePlan);
        for (int state = 0; state < walks.states; state++) {
            if (!isBest(state, toldPlan[state])) {
                return 0;
            }
        }
        return 1;
    }

    public long upper() {
        return answerUpper;
    }

    public long lower() {
        return answerLower;
    }

    public int told(int what) {
        switch (what) {
            case 0:
                return walks.states;
            case 1:
                return countActs();
            case 2:
                return countPlans();
            case 3:
                return countBestPlans();
            case 4:
                return countTheirs();
            default:
                return OUTSIDE;
        }
    }

    private static boolean isPay(int pay) {
        return pay >= -MOST_PAY && pay <= MOST_PAY;
    }

    private int giveAnswer(long above, long below) {
        long divisor = Math.max(1L, commonDivisor(Math.abs(above), below));
        answerUpper = above / divisor;
        answerLower = below / divisor;
        return 1;
    }

    private static long commonDivisor(long one, long other) {
        long a = one;
        long b = other;
        // Two longs are through after fewer than a hundred rounds.
        for (int round = 0; round < 100 && b != 0; round++) {
            long rest = a % b;
            a = b;
            b = rest;
        }
        return a;
    }

    private void tryToldPlan() {
        System.arraycopy(toldPlan, 0, trialPlan, 0, MOST_STATES);
    }

    /** From the VALUES with some ACTS left to those with one more; after five, 360^5 is the lower number. */
    private void stepBack() {
        for (int state = 0; state < walks.states; state++) {
            int act = walks.likedAct(state, 0, stepNumbers);
            nextNumbers[state] = walks.comesTo(Walks.slotOf(state, act), stepNumbers);
        }
        System.arraycopy(nextNumbers, 0, stepNumbers.uppers, 0, walks.states);
        stepNumbers.lower *= walks.stepScale();
    }

    /** Only right behind findValues; so are the methods that call it. */
    private boolean isBest(int state, int act) {
        long upper = walks.comesTo(Walks.slotOf(state, act), worths.numbers);
        return upper == worths.numbers.uppers[state] * walks.stepScale();
    }

    private int bestBits(int state) {
        int bits = 0;
        for (int act = 0; act < walks.acts[state]; act++) {
            if (isBest(state, act)) {
                bits |= 1 << act;
            }
        }
        return bits;
    }

    private int countActs() {
        int count = 0;
        for (int state = 0; state < walks.states; state++) {
            count += walks.acts[state];
        }
        return count;
    }

    private int countPlans() {
        int count = 1;
        for (int state = 0; state < walks.states; state++) {
            count *= Math.max(1, walks.acts[state]);
        }
        return count;
    }

    /** A PLAN has the VALUES as its WORTHS just if all its ACTS are BEST: WORTHS are the only solution. */
    private int countBestPlans() {
        worths.findValues(walks, valuePlan);
        int count = 1;
        for (int state = 0; state < walks.states; state++) {
            count *= Math.max(1, Integer.bitCount(bestBits(state)));
        }
        return count;
    }

    private int countTheirs() {
        int count = 0;
        for (int state = 0; state < walks.states; state++) {
            if (walks.theirs[state]) {
                count++;
            }
        }
        return count;
    }

    /** A number for each STATE, all over one lower number, which is above 0. */
    private static final class Numbers {
        private final long[] uppers = new long[MOST_STATES];
        private long lower = 1;
    }

    /**
     * The STATES with their ACTS, and THE SHARE. ACT a of STATE s stands in slot 3 s + a. The slots
     * of ACTS that are not there hold zeros, so that a STATE without ACTS reads as one whose ACT 0
     * pays nothing and leads nowhere: its numbers are 0 then, as the document has it.
     */
    private static final class Walks {
        private int states = 0;
        private int shareUpper = 1;
        private int shareLower = 2;
        private final boolean[] theirs = new boolean[MOST_STATES];
        private final int[] acts = new int[MOST_STATES];
        private final int[] pays = new int[MOST_STATES * MOST_ACTS];
        private final int[] totals = new int[MOST_STATES * MOST_ACTS];
        private final int[][] weights = new int[MOST_STATES * MOST_ACTS][MOST_STATES];

        private static int slotOf(int state, int act) {
            return state * MOST_ACTS + act;
        }

        private void forget() {
            states = 0;
            shareUpper = 1;
            shareLower = 2;
            Arrays.fill(acts, 0);
            Arrays.fill(pays, 0);
            Arrays.fill(totals, 0);
            for (int slot = 0; slot < MOST_STATES * MOST_ACTS; slot++) {
                Arrays.fill(weights[slot], 0);
            }
        }

        private boolean hasState(int state) {
            return state >= 0 && state < states;
        }

        private boolean hasAct(int state, int act) {
            return hasState(state) && act >= 0 && act < acts[state];
        }

        private int addState(boolean isTheirs) {
            int state = states;
            theirs[state] = isTheirs;
            states++;
            return state;
        }

        private int addAct(int state, int itsPay) {
            int act = acts[state];
            pays[slotOf(state, act)] = itsPay;
            acts[state]++;
            return act;
        }

        /** How many times greater the lower number is of what ACTS come to than that of the numbers given. */
        private long stepScale() {
            return (long) ALL_TOTALS * shareLower;
        }

        /** What an ACT comes to by the numbers given: over their lower number times stepScale. */
        private long comesTo(int slot, Numbers numbers) {
            long now = pays[slot] * stepScale() * numbers.lower;
            int total = totals[slot];
            if (total == 0) {
                return now;
            }
            long sum = 0;
            for (int to = 0; to < states; to++) {
                sum += weights[slot][to] * numbers.uppers[to];
            }
            return now + (long) shareUpper * (ALL_TOTALS / total) * sum;
        }

        private boolean likes(int state, long one, long other) {
            return theirs[state] ? one < other : one > other;
        }

        /** The ACT that comes to what the STATE'S side likes best; the held one if none is liked more. */
        private int likedAct(int state, int held, Numbers numbers) {
            int liked = held;
            long likedUpper = comesTo(slotOf(state, held), numbers);
            for (int act = 0; act < acts[state]; act++) {
                long upper = comesTo(slotOf(state, act), numbers);
                if (likes(state, upper, likedUpper)) {
                    liked = act;
                    likedUpper = upper;
                }
            }
            return liked;
        }
    }

    /** An equation for each STATE, in whole numbers; the last column is what stands on the right. */
    private static final class Equations {
        private static final int RIGHT = MOST_STATES;

        private final long[][] rows = new long[MOST_STATES][MOST_STATES + 1];

        private void begin() {
            for (int row = 0; row < MOST_STATES; row++) {
                Arrays.fill(rows[row], 0L);
            }
        }

        /**
         * Elimination in which each entry stays a minor of the first rows, so that every division
         * comes out even and no entry outgrows the answers. Both users write rows whose leading
         * minors are all above 0, so that no rows need to be exchanged.
         */
        private void solve(int size, Numbers into) {
            long before = 1;
            for (int pivot = 0; pivot < size; pivot++) {
                for (int row = 0; row < size; row++) {
                    if (row != pivot) {
                        eliminate(row, pivot, before);
                    }
                }
                before = Math.max(1L, rows[pivot][pivot]);
            }
            for (int row = 0; row < size; row++) {
                into.uppers[row] = rows[row][RIGHT];
            }
            into.lower = before;
        }

        private void eliminate(int row, int pivot, long before) {
            // Never so, as solve has it; but LANGUAGE.md wants each divisor looked at.
            if (before == 0) {
                return;
            }
            long own = rows[pivot][pivot];
            long factor = rows[row][pivot];
            for (int column = pivot + 1; column <= RIGHT; column++) {
                long minor = own * rows[row][column] - factor * rows[pivot][column];
                rows[row][column] = minor / before;
            }
        }
    }

    /** The WORTHS by a PLAN, and PLANS made better for one side or for both. */
    private static final class PlanWorths {
        private final Equations equations = new Equations();
        private final Numbers numbers = new Numbers();

        /** Rows are dominated by their diagonals, 36 at most, so the lower number is from 1 to 36^5. */
        private void follow(Walks walks, int[] plan) {
            equations.begin();
            for (int state = 0; state < walks.states; state++) {
                int slot = Walks.slotOf(state, plan[state]);
                long[] row = equations.rows[state];
                for (int to = 0; to < walks.states; to++) {
                    row[to] = -(long) walks.shareUpper * walks.weights[slot][to];
                }
                long scale = (long) walks.shareLower * Math.max(1, walks.totals[slot]);
                row[state] += scale;
                row[Equations.RIGHT] = scale * walks.pays[slot];
            }
            equations.solve(walks.states, numbers);
        }

        /** Whether some ACT of the side is liked more by the numbers of the PLAN: then it has that one. */
        private boolean improve(boolean theirs, Walks walks, int[] plan) {
            boolean better = false;
            for (int state = 0; state < walks.states; state++) {
                if (walks.theirs[state] == theirs) {
                    int liked = walks.likedAct(state, plan[state], numbers);
                    if (liked != plan[state]) {
                        plan[state] = liked;
                        better = true;
                    }
                }
            }
            return better;
        }

        /** The side's ACTS become its best answer; each round is better than all before, so no PLAN comes twice. */
        private void replyBy(boolean theirs, Walks walks, int[] plan) {
            follow(walks, plan);
            for (int round = 0; round < MOST_PLANS && improve(theirs, walks, plan); round++) {
                follow(walks, plan);
            }
        }

        /**
         * OURS change only against THEIR best answer: if both sides changed at once, PLANS could go
         * round in a circle. When neither side has an ACT that it likes more, WORTHS are VALUES.
         */
        private void findValues(Walks walks, int[] plan) {
            replyBy(true, walks, plan);
            for (int round = 0; round < MOST_PLANS && improve(false, walks, plan); round++) {
                replyBy(true, walks, plan);
            }
        }
    }

    /**
     * What PAYS come to in the mean by a PLAN. A STATE that is left for good somewhen has the mean of
     * where its walks go; the others stand in circles, all STATES of which have one mean. The unknown
     * of a circle's last STATE, its home, is that mean; those of its other STATES are what they bring
     * beside it, that of the home being 0. With the last STATE as home all leading minors are above 0.
     */
    private static final class LongRun {
        private static final int END = 1 << MOST_STATES;

        private final Equations equations = new Equations();
        private final Numbers numbers = new Numbers();
        private final int[] reach = new int[MOST_STATES];
        /** Where a STATE'S mean stands among the numbers. */
        private final int[] homes = new int[MOST_STATES];

        private void follow(Walks walks, int[] plan) {
            findReach(walks, plan);
            findHomes(walks.states);
            equations.begin();
            for (int state = 0; state < walks.states; state++) {
                int slot = Walks.slotOf(state, plan[state]);
                if (isInCircle(state, walks.states)) {
                    writeCircle(walks, state, slot);
                } else {
                    writePassage(walks, state, slot);
                }
            }
            equations.solve(walks.states, numbers);
        }

        private void findReach(Walks walks, int[] plan) {
            for (int state = 0; state < walks.states; state++) {
                int slot = Walks.slotOf(state, plan[state]);
                int bits = walks.totals[slot] == 0 ? END : 0;
                for (int to = 0; to < walks.states; to++) {
                    if (walks.weights[slot][to] > 0) {
                        bits |= 1 << to;
                    }
                }
                reach[state] = bits | 1 << state;
            }
            for (int by = 0; by < walks.states; by++) {
                for (int state = 0; state < walks.states; state++) {
                    if (reaches(state, by)) {
                        reach[state] |= reach[by];
                    }
                }
            }
        }

        private boolean reaches(int state, int to) {
            return (reach[state] & 1 << to) != 0;
        }

        private boolean isInCircle(int state, int states) {
            if ((reach[state] & END) != 0) {
                return false;
            }
            for (int to = 0; to < states; to++) {
                if (reaches(state, to) && !reaches(to, state)) {
                    return false;
                }
            }
            return true;
        }

        private void findHomes(int states) {
            for (int state = 0; state < states; state++) {
                homes[state] = state;
                boolean inCircle = isInCircle(state, states);
                for (int to = state + 1; to < states; to++) {
                    if (inCircle && reaches(state, to)) {
                        homes[state] = to;
                    }
                }
            }
        }

        private void writeCircle(Walks walks, int state, int slot) {
            long[] row = equations.rows[state];
            int home = homes[state];
            int total = walks.totals[slot];
            for (int to = 0; to < walks.states; to++) {
                if (to != home) {
                    row[to] -= walks.weights[slot][to];
                }
            }
            row[home] += total;
            if (state != home) {
                row[state] += total;
            }
            row[Equations.RIGHT] = (long) total * walks.pays[slot];
        }

        private void writePassage(Walks walks, int state, int slot) {
            long[] row = equations.rows[state];
            for (int to = 0; to < walks.states; to++) {
                row[homes[to]] -= walks.weights[slot][to];
            }
            row[state] += Math.max(1, walks.totals[slot]);
        }
    }
}
