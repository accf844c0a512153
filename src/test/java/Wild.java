import java.lang.reflect.InvocationTargetException;
import java.lang.reflect.Method;
import java.util.ArrayList;
import java.util.Arrays;
import java.util.Comparator;
import java.util.List;
import java.util.Random;

/**
 * Calls with any numbers in any state: none throws, none answers what no promise names, what is refused changes
 * nothing, the same calls give the same answers, and calls make next to nothing in the room.
 */
public final class Wild {
    private static final int RUNS = 400, CALLS = 500;
    private static final int[] EDGES = {0, 1, 2, 3, 5, 6, 7, 9, 10, 11, 12, 13, 14, 30, 31, 40, 41, 59, 60, 61, 99, 100, 101, 127,
        128, 255, 256, 512, 1023, 1024, 6030, -1, -2, -3, -14, Integer.MAX_VALUE, Integer.MIN_VALUE, Integer.MAX_VALUE - 1};
    private static final String TEXT = "abpwn0123456789+-*/%<=>|&!()?;";
    private static int wrong;

    public static void main(String[] args) throws Exception {
        List<Method> methods = new ArrayList<>();
        for (Method m : FoxHoles.class.getDeclaredMethods()) {
            if (java.lang.reflect.Modifier.isPublic(m.getModifiers())) {
                methods.add(m);
            }
        }
        methods.sort(Comparator.comparing(Method::getName));
        for (int seed = 1; seed <= RUNS && wrong < 10; seed++) {
            run(methods, new Random(seed), seed);
        }
        room();
        System.out.println(wrong == 0 ? RUNS + " wild runs are well" : wrong + " faults");
        if (wrong != 0) {
            System.exit(1);
        }
    }

    private static void fault(String what) {
        wrong++;
        System.out.println(what);
    }

    /** The second object is spared what the first one refused; both must go on alike. */
    private static void run(List<Method> methods, Random random, int seed) throws Exception {
        FoxHoles all = new FoxHoles();
        FoxHoles spared = new FoxHoles();
        for (int i = 0; i < CALLS; i++) {
            Method m = methods.get(random.nextInt(methods.size()));
            if (random.nextInt(4) == 0) {
                m = methods.get(named(methods, new String[] {"hole", "path", "row", "put", "hide"}[random.nextInt(5)]));
            }
            Object[] with = arguments(m, random);
            try {
                long got = ((Number) m.invoke(all, with)).longValue();
                if (isRefusal(m.getName(), got)) {
                    continue;
                }
                long then = ((Number) m.invoke(spared, with)).longValue();
                if (got != then) {
                    fault("seed " + seed + ", call " + i + ": " + m.getName() + Arrays.toString(with) + " answered " + got
                        + ", without the refused calls ahead " + then);
                    return;
                }
            } catch (InvocationTargetException e) {
                fault("seed " + seed + ", call " + i + ": " + m.getName() + Arrays.toString(with) + " threw " + e.getCause());
                return;
            }
        }
    }

    private static int named(List<Method> methods, String name) {
        for (int i = 0; i < methods.size(); i++) {
            if (methods.get(i).getName().equals(name)) {
                return i;
            }
        }
        return 0;
    }

    /** image and back answer NOT with nothing hidden and are carried out; an act that is none empties the trace. */
    private static boolean isRefusal(String name, long answer) {
        if (name.equals("image") || name.equals("act") || name.equals("law") || name.equals("back") && answer == -2) {
            return false;
        }
        return answer == Long.MIN_VALUE || answer == -2000000000L || answer < 0 && answer >= -14 && !name.equals("element");
    }

    private static Object[] arguments(Method m, Random random) {
        Class<?>[] types = m.getParameterTypes();
        Object[] with = new Object[types.length];
        for (int i = 0; i < types.length; i++) {
            int v = EDGES[random.nextInt(EDGES.length)];
            if (random.nextInt(3) != 0) {
                v = random.nextInt(random.nextBoolean() ? 4 : 12);
            }
            if (m.getName().equals("feed") && random.nextInt(10) != 0) {
                v = TEXT.charAt(random.nextInt(TEXT.length()));
            }
            if (m.getName().equals("path") && random.nextInt(10) != 0) {
                v = random.nextInt(100);
            }
            if (random.nextInt(30) == 0) {
                v = random.nextInt();
            }
            if (types[i] == long.class) {
                with[i] = (long) v;
            } else {
                with[i] = v;
            }
        }
        return with;
    }

    /** What calls make beside the object is next to nothing, however dear they are. */
    private static void room() {
        com.sun.management.ThreadMXBean threads =
            (com.sun.management.ThreadMXBean) java.lang.management.ManagementFactory.getThreadMXBean();
        dearCalls(new FoxHoles());
        long start = threads.getCurrentThreadAllocatedBytes();
        FoxHoles x = new FoxHoles();
        long made = threads.getCurrentThreadAllocatedBytes();
        dearCalls(x);
        long called = threads.getCurrentThreadAllocatedBytes();
        if (made - start > 200_000) {
            fault("an object takes " + (made - start) + " bytes");
        }
        if (called - made > 20_000) {
            fault("calls take " + (called - made) + " bytes");
        }
    }

    private static void dearCalls(FoxHoles x) {
        for (int i = 0; i < 10; i++) {
            x.hole(i);
        }
        for (int i = 0; i < 9; i++) {
            x.path(i * 10 + i + 1);
        }
        x.body(7);
        x.row(0, 0, 60);
        for (int i = 0; i < 40; i++) {
            x.mend(0, 3, i + 1);
            x.sure(-1);
            x.sure(2);
            x.toStop(i + 1);
            x.luckiest(4, 0);
            x.luck(0, 12, 0);
            x.drawn(0, i, 6030, 0);
            x.act(0, 3, i);
            x.row(i % 6, i % 5, 60);
            x.row(0, 0, 60);
            x.hide(i);
            x.look(55);
            x.image();
        }
    }
}
