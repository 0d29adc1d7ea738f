import java.lang.reflect.Constructor;
import java.lang.reflect.Field;
import java.lang.reflect.Method;
import java.lang.reflect.Modifier;
import java.util.TreeSet;
import java.util.Set;

/** The public face is the document's and nothing more, and calls make no objects (LANGUAGE.md 1, 5, 11, 12). */
public final class FaceTest {
    private static final Check CHECK = new Check();
    private static final Set<String> FACE = new TreeSet<>(Set.of(
            "void clear()", "int state(boolean)", "int act(int,int)", "int weight(int,int,int,int)",
            "int pay(int,int,int)", "int share(int,int)", "int tell(int,int)", "int value(int)",
            "int comes(int,int)", "int best(int)", "int worth(int)", "int reply(int,int)", "int change(int)",
            "int within(int,int)", "int run(int)", "int settled()", "long upper()", "long lower()",
            "int told(int)"));

    public static void main(String[] args) {
        methods();
        fieldsAndConstructors();
        namesInside();
        noObjects();
        CHECK.end("FaceTest");
    }

    private static void methods() {
        Set<String> found = new TreeSet<>();
        for (Method m : PlanValues.class.getDeclaredMethods()) {
            if (Modifier.isPrivate(m.getModifiers()) || m.isSynthetic()) {
                continue;
            }
            StringBuilder text = new StringBuilder(m.getReturnType() + " " + m.getName() + "(");
            for (int i = 0; i < m.getParameterCount(); i++) {
                text.append(i == 0 ? "" : ",").append(m.getParameterTypes()[i]);
            }
            found.add(text.append(")").toString());
            CHECK.that(m + " is public and of the object", m.getModifiers() == Modifier.PUBLIC);
        }
        CHECK.that("the methods are " + found, found.equals(FACE));
    }

    private static void fieldsAndConstructors() {
        CHECK.due("public final class", PlanValues.class.getModifiers(), Modifier.PUBLIC | Modifier.FINAL);
        Constructor<?>[] made = PlanValues.class.getDeclaredConstructors();
        CHECK.due("one constructor", made.length, 1);
        CHECK.due("it is public", made[0].getModifiers(), Modifier.PUBLIC);
        CHECK.due("it takes nothing", made[0].getParameterCount(), 0);
        for (Field f : PlanValues.class.getDeclaredFields()) {
            boolean constant = f.getName().equals("NONE");
            CHECK.that(f + " is private or NONE", constant == !Modifier.isPrivate(f.getModifiers()));
            CHECK.that(f + " is final if it is static",
                    !Modifier.isStatic(f.getModifiers()) || Modifier.isFinal(f.getModifiers()));
        }
    }

    private static void namesInside() {
        Set<String> names = new TreeSet<>();
        for (String one : FACE) {
            names.add(one.substring(one.indexOf(' ') + 1, one.indexOf('(')));
        }
        for (Method m : PlanValues.class.getDeclaredMethods()) {
            CHECK.that(m + " is public or has a name of its own",
                    Modifier.isPublic(m.getModifiers()) || !names.contains(m.getName()));
        }
        for (Class<?> inside : PlanValues.class.getDeclaredClasses()) {
            CHECK.that(inside + " is static", Modifier.isStatic(inside.getModifiers()));
            for (Method m : inside.getDeclaredMethods()) {
                CHECK.that(m + " has a name of its own", !names.contains(m.getName()));
                CHECK.that(m + " takes seven at most", m.getParameterCount() <= 7);
            }
        }
    }

    /** All calls of a run live in one room, so whatever a call made would stay. */
    private static void noObjects() {
        com.sun.management.ThreadMXBean bean =
                (com.sun.management.ThreadMXBean) java.lang.management.ManagementFactory.getThreadMXBean();
        PlanValues x = new PlanValues();
        long least = Long.MAX_VALUE;
        for (int round = 0; round < 20; round++) {
            long before = bean.getThreadAllocatedBytes(Thread.currentThread().getId());
            everyCall(x);
            long after = bean.getThreadAllocatedBytes(Thread.currentThread().getId());
            least = Math.min(least, after - before);
        }
        // The look itself may cost some; every call here together makes less than two small objects.
        CHECK.that("bytes of all calls: " + least, least < 64);
    }

    private static void everyCall(PlanValues x) {
        x.clear();
        for (int i = 0; i < 6; i++) {
            x.state(i % 2 == 0);
        }
        for (int s = 0; s < 6; s++) {
            for (int a = 0; a < 4; a++) {
                x.act(s, 7 * a - s);
                x.weight(s, a, (s + a) % 5, 2);
                x.weight(s, a, (s + 2) % 5, 3);
                x.pay(s, a, s - a);
                x.tell(s, a);
                x.comes(s, a);
            }
            x.share(s, 6);
            x.value(s);
            x.best(s);
            x.worth(s);
            x.reply(s, 0);
            x.reply(s, 1);
            x.change(s);
            x.within(s, 5);
            x.run(s);
            x.settled();
            x.upper();
            x.lower();
            x.told(s);
        }
    }
}
