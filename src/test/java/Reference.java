import java.util.ArrayList;
import java.util.List;

/**
 * The document's words carried out one by one: every PLAN is tried, with fractions that have no
 * limits. It shares no way of reckoning with PlanValues.
 */
final class Reference {
    private static final class Act {
        int pay;
        final int[] weights = new int[5];

        int total() {
            int sum = 0;
            for (int w : weights) {
                sum += w;
            }
            return sum;
        }
    }

    private static final class State {
        final boolean theirs;
        final List<Act> acts = new ArrayList<>();
        int told = 0;

        State(boolean theirs) {
            this.theirs = theirs;
        }
    }

    private final List<State> states = new ArrayList<>();
    private Ratio share = Ratio.of(1, 2);
    private Ratio answer = Ratio.ZERO;
    /** All PLANS and their WORTHS, made anew behind each change; null: not made. */
    private List<int[]> plans = null;
    private List<Ratio[]> worths = null;

    long upper() {
        return answer.upper.longValueExact();
    }

    long lower() {
        return answer.lower.longValueExact();
    }

    void clear() {
        states.clear();
        share = Ratio.of(1, 2);
        answer = Ratio.ZERO;
        plans = null;
    }

    int state(boolean theirs) {
        if (states.size() == 5) {
            return -4;
        }
        states.add(new State(theirs));
        plans = null;
        return states.size() - 1;
    }

    int act(int state, int pay) {
        if (unknown(state)) {
            return -1;
        }
        if (pay < -50 || pay > 50) {
            return -2;
        }
        List<Act> acts = states.get(state).acts;
        if (acts.size() == 3) {
            return -4;
        }
        Act made = new Act();
        made.pay = pay;
        acts.add(made);
        plans = null;
        return acts.size() - 1;
    }

    int weight(int state, int act, int to, int w) {
        if (unknown(state, act) || unknown(to)) {
            return -1;
        }
        Act its = states.get(state).acts.get(act);
        int was = its.weights[to];
        if (w < 0 || w > 6 || its.total() - was + w > 6) {
            return -2;
        }
        its.weights[to] = w;
        plans = null;
        return was;
    }

    int pay(int state, int act, int v) {
        if (unknown(state, act)) {
            return -1;
        }
        if (v < -50 || v > 50) {
            return -2;
        }
        Act its = states.get(state).acts.get(act);
        int was = its.pay;
        its.pay = v;
        plans = null;
        return was + 50;
    }

    int share(int u, int d) {
        if (d < 1 || d > 6 || u < 0 || u > d - 1) {
            return -2;
        }
        share = Ratio.of(u, d);
        plans = null;
        return 1;
    }

    int tell(int state, int act) {
        if (unknown(state, act)) {
            return -1;
        }
        int was = states.get(state).told;
        states.get(state).told = act;
        return was;
    }

    int value(int state) {
        return unknown(state) ? -1 : make(valueOf(state));
    }

    int comes(int state, int act) {
        return unknown(state, act) ? -1 : make(comesTo(state, act, values()));
    }

    int best(int state) {
        if (unknown(state)) {
            return -1;
        }
        int bits = 0;
        Ratio[] values = values();
        for (int a = 0; a < states.get(state).acts.size(); a++) {
            if (comesTo(state, a, values).same(values[state])) {
                bits |= 1 << a;
            }
        }
        return bits;
    }

    int worth(int state) {
        return unknown(state) ? -1 : make(worthsBy(toldPlan())[state]);
    }

    int reply(int state, int side) {
        if (unknown(state)) {
            return -1;
        }
        if (side < 0 || side > 1) {
            return -2;
        }
        tryPlans();
        int[] told = toldPlan();
        Ratio found = null;
        for (int p = 0; p < plans.size(); p++) {
            Ratio one = worths.get(p)[state];
            if (agree(plans.get(p), told, side == 1)
                    && (found == null || (side == 0 ? one.compareTo(found) < 0 : one.compareTo(found) > 0))) {
                found = one;
            }
        }
        return make(found);
    }

    int change(int state) {
        if (unknown(state)) {
            return -1;
        }
        int count = states.get(state).acts.size();
        if (count == 0) {
            return -3;
        }
        int[] plan = toldPlan();
        int found = -1;
        Ratio most = null;
        for (int a = 0; a < count; a++) {
            plan[state] = a;
            Ratio one = worthsBy(plan)[state];
            if (most == null || (states.get(state).theirs ? one.compareTo(most) < 0 : one.compareTo(most) > 0)) {
                most = one;
                found = a;
            }
        }
        return found;
    }

    int within(int state, int n) {
        if (unknown(state)) {
            return -1;
        }
        return n < 0 || n > 5 ? -2 : make(valuesWithin(n)[state]);
    }

    /** Whether above / below is in lowest terms and what run(state) asks for; then it is THE ANSWER. */
    boolean takesRun(int state, long above, long below) {
        if (below < 1 || below > 46656) {
            return false;
        }
        Ratio told = Ratio.of(above, below);
        // Lower numbers are 46656 at most, so that two such fractions are 4.5e-10 apart or the same.
        double apart = (double) above / below - longRun(state);
        if (told.lower.longValueExact() != below || apart > 1e-10 || apart < -1e-10) {
            return false;
        }
        answer = told;
        return true;
    }

    int settled() {
        return hasValues(worthsBy(toldPlan())) ? 1 : 0;
    }

    int told(int what) {
        int count = 0;
        switch (what) {
            case 0:
                return states.size();
            case 1:
                for (State s : states) {
                    count += s.acts.size();
                }
                return count;
            case 2:
                tryPlans();
                return plans.size();
            case 3:
                tryPlans();
                for (Ratio[] w : worths) {
                    count += hasValues(w) ? 1 : 0;
                }
                return count;
            case 4:
                for (State s : states) {
                    count += s.theirs ? 1 : 0;
                }
                return count;
            default:
                return -2;
        }
    }

    boolean unknown(int state) {
        return state < 0 || state >= states.size();
    }

    private boolean unknown(int state, int act) {
        return unknown(state) || act < 0 || act >= states.get(state).acts.size();
    }

    private int make(Ratio made) {
        answer = made;
        return 1;
    }

    private int[] toldPlan() {
        int[] plan = new int[states.size()];
        for (int s = 0; s < plan.length; s++) {
            plan[s] = states.get(s).told;
        }
        return plan;
    }

    private boolean agree(int[] one, int[] other, boolean theirs) {
        for (int s = 0; s < one.length; s++) {
            if (states.get(s).theirs == theirs && one[s] != other[s]) {
                return false;
            }
        }
        return true;
    }

    private void tryPlans() {
        if (plans != null) {
            return;
        }
        plans = new ArrayList<>();
        worths = new ArrayList<>();
        addPlans(new int[states.size()], 0);
    }

    private void addPlans(int[] plan, int from) {
        if (from == plan.length) {
            plans.add(plan.clone());
            worths.add(worthsBy(plan));
            return;
        }
        for (int a = 0; a < Math.max(1, states.get(from).acts.size()); a++) {
            plan[from] = a;
            addPlans(plan, from + 1);
        }
    }

    private Ratio[] worthsBy(int[] plan) {
        int n = states.size();
        Ratio[][] m = new Ratio[n][n + 1];
        for (int s = 0; s < n; s++) {
            boolean none = states.get(s).acts.isEmpty();
            Act act = none ? null : states.get(s).acts.get(plan[s]);
            for (int t = 0; t < n; t++) {
                Ratio own = s == t ? Ratio.ONE : Ratio.ZERO;
                boolean leads = !none && act.total() > 0;
                m[s][t] = leads ? own.minus(share.times(Ratio.of(act.weights[t], act.total()))) : own;
            }
            m[s][n] = none ? Ratio.ZERO : Ratio.of(act.pay, 1);
        }
        return solve(m, n);
    }

    private static Ratio[] solve(Ratio[][] m, int n) {
        for (int k = 0; k < n; k++) {
            for (int i = k + 1; i < n; i++) {
                Ratio factor = m[i][k].by(m[k][k]);
                for (int j = k; j <= n && !factor.isZero(); j++) {
                    m[i][j] = m[i][j].minus(factor.times(m[k][j]));
                }
            }
        }
        Ratio[] found = new Ratio[n];
        for (int i = n - 1; i >= 0; i--) {
            Ratio rest = m[i][n];
            for (int j = i + 1; j < n; j++) {
                rest = rest.minus(m[i][j].times(found[j]));
            }
            found[i] = rest.by(m[i][i]);
        }
        return found;
    }

    /** The most over OURS of the least over THEIRS, by trying all. */
    private Ratio valueOf(int state) {
        tryPlans();
        Ratio most = null;
        for (int[] ours : plans) {
            Ratio least = null;
            for (int p = 0; p < plans.size(); p++) {
                Ratio one = worths.get(p)[state];
                if (agree(plans.get(p), ours, false) && (least == null || one.compareTo(least) < 0)) {
                    least = one;
                }
            }
            if (most == null || least.compareTo(most) > 0) {
                most = least;
            }
        }
        return most;
    }

    private Ratio[] values() {
        Ratio[] found = new Ratio[states.size()];
        for (int s = 0; s < found.length; s++) {
            found[s] = valueOf(s);
        }
        return found;
    }

    private boolean hasValues(Ratio[] of) {
        Ratio[] values = values();
        for (int s = 0; s < values.length; s++) {
            if (!values[s].same(of[s])) {
                return false;
            }
        }
        return true;
    }

    private Ratio comesTo(int state, int act, Ratio[] numbers) {
        Act its = states.get(state).acts.get(act);
        Ratio sum = Ratio.of(its.pay, 1);
        for (int t = 0; t < numbers.length && its.total() > 0; t++) {
            sum = sum.plus(share.times(Ratio.of(its.weights[t], its.total())).times(numbers[t]));
        }
        return sum;
    }

    private Ratio[] valuesWithin(int n) {
        Ratio[] found = new Ratio[states.size()];
        Ratio[] after = n == 0 ? null : valuesWithin(n - 1);
        for (int s = 0; s < found.length; s++) {
            found[s] = Ratio.ZERO;
            for (int a = 0; n > 0 && a < states.get(s).acts.size(); a++) {
                Ratio one = comesTo(s, a, after);
                int order = one.compareTo(found[s]);
                if (a == 0 || (states.get(s).theirs ? order < 0 : order > 0)) {
                    found[s] = one;
                }
            }
        }
        return found;
    }

    /**
     * A walk that stays where it is in half of its steps has the same means and no beat, so that
     * its powers come to rest; the last row and column are the end.
     */
    private double longRun(int state) {
        int n = states.size() + 1;
        double[][] p = new double[n][n];
        double[] pays = new double[n];
        for (int s = 0; s < n; s++) {
            p[s][s] = 0.5;
            State its = s < n - 1 ? states.get(s) : null;
            Act act = its == null || its.acts.isEmpty() ? null : its.acts.get(its.told);
            pays[s] = act == null ? 0 : act.pay;
            if (act == null || act.total() == 0) {
                p[s][n - 1] += 0.5;
            }
            for (int t = 0; act != null && t < n - 1 && act.total() > 0; t++) {
                p[s][t] += 0.5 * act.weights[t] / act.total();
            }
        }
        for (int round = 0; round < 40; round++) {
            p = squared(p);
        }
        double mean = 0;
        for (int t = 0; t < n; t++) {
            mean += p[state][t] * pays[t];
        }
        return mean;
    }

    private static double[][] squared(double[][] p) {
        int n = p.length;
        double[][] q = new double[n][n];
        for (int i = 0; i < n; i++) {
            double sum = 0;
            for (int j = 0; j < n; j++) {
                for (int k = 0; k < n; k++) {
                    q[i][j] += p[i][k] * p[k][j];
                }
                sum += q[i][j];
            }
            for (int j = 0; j < n; j++) {
                q[i][j] /= sum;
            }
        }
        return q;
    }
}
