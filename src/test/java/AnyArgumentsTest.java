import java.lang.management.ManagementFactory;
import java.lang.reflect.InvocationTargetException;
import java.lang.reflect.Method;
import java.lang.reflect.Modifier;
import java.util.ArrayList;
import java.util.Comparator;
import java.util.List;
import java.util.Random;

/**
 * Any arguments in any state: no call throws, a call that answers an error code changes nothing,
 * no question changes anything, and no call makes an object.
 */
public final class AnyArgumentsTest {
    private static final int[] EDGES = {Integer.MIN_VALUE, Integer.MIN_VALUE + 1, -100001, -101,
        -100, -10, -2, -1, 0, 1, 2, 3, 4, 5, 6, 7, 9, 10, 11, 12, 13, 31, 32, 47, 48, 49, 60, 65, 97,
        98, 99, 100, 101, 104, 126, 127, 300, 499, 500, 501, 100000, Integer.MAX_VALUE - 1,
        Integer.MAX_VALUE};
    private static final List<String> ACTIONS = List.of("stile", "open", "room", "slip", "pass",
            "audit", "repair", "hours", "close", "set", "run", "restore");
    private static final List<String> OTHER_CHANGES = List.of("append", "clearText", "undo", "save");

    public static void main(String[] args) throws ReflectiveOperationException {
        List<Method> calls = new ArrayList<>();
        for (Method method : HallStiles.class.getDeclaredMethods()) {
            if (Modifier.isPublic(method.getModifiers())) {
                calls.add(method);
            }
        }
        calls.sort(Comparator.comparing(Method::getName));
        anyCalls(calls);
        everyEdgeInEveryPlace(calls);
        noObjects();
        Checks.end();
    }

    /** With calls that mostly fit, so that the states are not all empty. */
    private static void anyCalls(List<Method> calls) throws ReflectiveOperationException {
        for (int seed = 0; seed < 400; seed++) {
            Random random = new Random(seed);
            HallStiles x = busy(random);
            for (int i = 0; i < 4; i++) {
                Method method = calls.get(random.nextInt(calls.size()));
                Object[] arguments = new Object[method.getParameterCount()];
                for (int k = 0; k < arguments.length; k++) {
                    arguments[k] = method.getParameterTypes()[k] == boolean.class
                            ? (Object) random.nextBoolean()
                            : (Object) EDGES[random.nextInt(EDGES.length)];
                }
                tryCall(x, method, arguments);
            }
        }
    }

    private static void everyEdgeInEveryPlace(List<Method> calls)
            throws ReflectiveOperationException {
        for (Method method : calls) {
            for (int place = 0; place < method.getParameterCount(); place++) {
                HallStiles empty = new HallStiles();
                HallStiles x = busy(new Random(place));
                for (int edge : EDGES) {
                    Object[] arguments = new Object[method.getParameterCount()];
                    for (int k = 0; k < arguments.length; k++) {
                        boolean isFlag = method.getParameterTypes()[k] == boolean.class;
                        arguments[k] = isFlag ? (Object) (edge > 9) : (Object) (k == place ? edge : 1);
                    }
                    tryCall(empty, method, arguments);
                    tryCall(x, method, arguments);
                }
            }
        }
    }

    private static HallStiles busy(Random random) {
        HallStiles x = new HallStiles();
        int stiles = random.nextInt(13);
        for (int i = 0; i < stiles; i++) {
            int first = random.nextInt(6);
            x.stile(first, (first + 1 + random.nextInt(5)) % 6);
            x.slip(i, random.nextInt(4), 2 + random.nextInt(8));
        }
        for (int i = 0; i < 40; i++) {
            int stile = random.nextInt(12);
            x.pass(stile, random.nextBoolean(), 1 + random.nextInt(99));
        }
        if (random.nextBoolean()) {
            x.save();
            x.repair(random.nextInt(12));
            x.open(random.nextInt(12), random.nextInt(4));
        }
        String text = "A>9,Aa,Ar,h3,B<5,Lr,C";
        Checks.write(x, text.substring(0, random.nextInt(text.length() + 1)));
        return x;
    }

    private static void tryCall(HallStiles x, Method method, Object[] arguments)
            throws ReflectiveOperationException {
        String stateBefore = Look.atState(x);
        String restBefore = Look.atRest(x);
        Object answer;
        try {
            answer = method.invoke(x, arguments);
        } catch (InvocationTargetException e) {
            Checks.isTrue(method + " threw " + e.getCause(), false);
            return;
        }
        String name = method.getName();
        boolean isError = answer instanceof Integer && (Integer) answer < 0
                && (ACTIONS.contains(name) || OTHER_CHANGES.contains(name));
        boolean mayChange = ACTIONS.contains(name) || OTHER_CHANGES.contains(name);
        if (isError || !mayChange) {
            Checks.isTrue(method + " answered " + answer + " and changed something",
                    stateBefore.equals(Look.atState(x)) && restBefore.equals(Look.atRest(x)));
        } else if (ACTIONS.contains(name)) {
            x.undo();
            // Where the history was full its oldest state is gone; all else must be as it was.
            Checks.isTrue("undo of " + method, Look.atState(x).equals(stateBefore));
        }
    }

    /** All calls of a run live in one room, so a call that makes nothing can be made for ever. */
    private static void noObjects() {
        com.sun.management.ThreadMXBean threads =
                (com.sun.management.ThreadMXBean) ManagementFactory.getThreadMXBean();
        long self = Thread.currentThread().getId();
        HallStiles x = busy(new Random(7));
        Checks.rewrite(x, "A>1,A<1,Aa,h1");
        eachCall(x);
        long before = threads.getThreadAllocatedBytes(self);
        for (int i = 0; i < 100; i++) {
            eachCall(x);
        }
        long made = threads.getThreadAllocatedBytes(self) - before;
        // 3000 calls: an object in each would take 48,000 bytes at the least.
        Checks.isTrue("3000 calls made " + made + " bytes", made < 10_000);
    }

    private static double eachCall(HallStiles x) {
        int sum = x.stile(0, 1) + x.undo() + x.open(0, 0) + x.room(1, 400) + x.slip(0, 1, 3)
                + x.pass(0, true, 3) + x.pass(0, false, 3) + x.audit(0) + x.repair(0) + x.hours(7)
                + x.set(0, 5) + x.append('A') + x.fault() + x.run() + x.clearText() + x.save()
                + x.restore() + x.hall(1, 4) + x.stileOf(0, 4) + x.counter(0, 1, 2)
                + x.reason(0, true, 2) + x.worst(0) + x.count(8) + x.most(0, true) + x.emptyIn()
                + x.leftWithout(0, 9) + x.close(3);
        sum += x.append('h') + x.append('2') + x.run() + x.clearText();
        return sum + x.fullness();
    }
}
