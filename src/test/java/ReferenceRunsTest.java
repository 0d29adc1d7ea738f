import java.util.Random;

/** Long runs of calls, right and wrong ones, beside the reference; THE ANSWER is looked at behind each. */
public final class ReferenceRunsTest {
    private static final Check CHECK = new Check();
    private static final int[] WRONG = {-1, Integer.MIN_VALUE, Integer.MAX_VALUE, 5, 6, 7, 51, -51, 1 << 30};

    private final Random random;
    /** 0: all small, so that many are alike; 1: all great; 2: mixed; 3: few ACTS, few ways. */
    private final int style;
    private final PlanValues x = new PlanValues();
    private final Reference due = new Reference();
    private final String name;

    private ReferenceRunsTest(int seed) {
        random = new Random(seed);
        style = seed % 4;
        name = "run " + seed;
    }

    public static void main(String[] args) {
        for (int seed = 0; seed < 120; seed++) {
            new ReferenceRunsTest(seed).go();
        }
        CHECK.end("ReferenceRunsTest");
    }

    private void go() {
        int most = 1 + random.nextInt(5);
        if (style == 1) {
            most = 5;
        }
        build(most);
        for (int call = 0; call < 90; call++) {
            if (random.nextInt(5) == 0) {
                changeOne();
            } else {
                ask();
            }
            if (random.nextInt(150) == 0) {
                x.clear();
                due.clear();
                same("clear()", 0, 0);
                build(most);
            }
        }
    }

    private void build(int most) {
        int u = style == 1 ? 5 : random.nextInt(6);
        int d = style == 1 ? 6 : 1 + random.nextInt(6);
        same("share(" + u + ", " + d + ")", x.share(u, d), due.share(u, d));
        for (int s = 0; s < most; s++) {
            boolean theirs = random.nextBoolean();
            same("state(" + theirs + ")", x.state(theirs), due.state(theirs));
        }
        for (int s = 0; s < most; s++) {
            int acts = style == 1 ? 3 : random.nextInt(4);
            for (int a = 0; a < acts; a++) {
                int pay = pay();
                same("act(" + s + ", " + pay + ")", x.act(s, pay), due.act(s, pay));
                for (int k = style == 3 ? 4 : 0; k < 5; k++) {
                    weigh(s, a, random.nextInt(most));
                }
            }
        }
    }

    private int pay() {
        switch (style) {
            case 0:
                return random.nextInt(3) - 1;
            case 1:
                return random.nextInt(3) * 50 - 50 + (random.nextInt(4) == 0 ? random.nextInt(3) - 1 : 0);
            default:
                return random.nextInt(101) - 50;
        }
    }

    private void weigh(int s, int a, int to) {
        int w = style == 1 ? 1 + random.nextInt(3) : random.nextInt(4);
        same("weight(" + s + ", " + a + ", " + to + ", " + w + ")", x.weight(s, a, to, w), due.weight(s, a, to, w));
    }

    /** Mostly what is there, now and then what is not. */
    private int number(int below) {
        return random.nextInt(12) == 0 ? WRONG[random.nextInt(WRONG.length)] : random.nextInt(below);
    }

    private void changeOne() {
        int s = number(5);
        int a = number(3);
        int v = random.nextInt(8) == 0 ? number(60) : pay();
        int to = number(5);
        int w = number(7);
        switch (random.nextInt(6)) {
            case 0:
                same("state", x.state(v > 0), due.state(v > 0));
                break;
            case 1:
                same("act(" + s + ", " + v + ")", x.act(s, v), due.act(s, v));
                break;
            case 2:
                same("pay(" + s + ", " + a + ", " + v + ")", x.pay(s, a, v), due.pay(s, a, v));
                break;
            case 3:
                int u = number(6);
                int d = number(7);
                same("share(" + u + ", " + d + ")", x.share(u, d), due.share(u, d));
                break;
            default:
                same("weight(" + s + ", " + a + ", " + to + ", " + w + ")",
                        x.weight(s, a, to, w), due.weight(s, a, to, w));
                break;
        }
    }

    private void ask() {
        int s = number(5);
        int a = number(3);
        int side = number(2);
        int n = number(6);
        switch (random.nextInt(12)) {
            case 0:
                same("value(" + s + ")", x.value(s), due.value(s));
                break;
            case 1:
                same("comes(" + s + ", " + a + ")", x.comes(s, a), due.comes(s, a));
                break;
            case 2:
                same("best(" + s + ")", x.best(s), due.best(s));
                break;
            case 3:
                same("worth(" + s + ")", x.worth(s), due.worth(s));
                break;
            case 4:
                same("reply(" + s + ", " + side + ")", x.reply(s, side), due.reply(s, side));
                break;
            case 5:
                same("change(" + s + ")", x.change(s), due.change(s));
                break;
            case 6:
                same("within(" + s + ", " + n + ")", x.within(s, n), due.within(s, n));
                break;
            case 7:
                same("settled()", x.settled(), due.settled());
                break;
            case 8:
                same("told(" + n + ")", x.told(n), due.told(n));
                break;
            case 9:
                int told = random.nextInt(2) == 0 && x.best(s) > 0 ? Integer.numberOfTrailingZeros(x.best(s)) : a;
                same("tell(" + s + ", " + told + ")", x.tell(s, told), due.tell(s, told));
                break;
            default:
                askRun(s);
                break;
        }
    }

    private void askRun(int s) {
        int got = x.run(s);
        if (due.unknown(s)) {
            same("run(" + s + ")", got, -1);
            return;
        }
        CHECK.due(name + ": run(" + s + ")", got, 1);
        CHECK.that(name + ": run(" + s + ") is " + x.upper() + " / " + x.lower(),
                due.takesRun(s, x.upper(), x.lower()));
    }

    private void same(String call, int got, int want) {
        CHECK.due(name + ": " + call, got, want);
        CHECK.held(name + ": " + call, x, due.upper(), due.lower());
    }
}
