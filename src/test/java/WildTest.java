import java.lang.reflect.InvocationTargetException;
import java.lang.reflect.Method;
import java.lang.reflect.Modifier;
import java.util.ArrayList;
import java.util.Comparator;
import java.util.List;
import java.util.Random;

/** No call ever throws, for any arguments in any state, also behind the 512th call (rule 7). */
public final class WildTest {
    private static final int RUNS = 300;
    private static final int CALLS = 1500;
    private static final int[] EDGES = {
        Integer.MIN_VALUE, Integer.MIN_VALUE + 1, Integer.MIN_VALUE + 5, -1025, -65, -17, -8, -5, -3, -2, -1, 0, 1, 2, 3, 4, 5, 7, 8,
        9, 15, 16, 20, 21, 31, 32, 40, 60, 61, 63, 64, 65, 127, 255, 256, 511, 512, 760, 761, 767, 768, 769, 1000, 1001, 1023, 1024,
        2047, 2048, 10000, 10001, 100000, 100001, 1 << 30, Integer.MAX_VALUE - 8, Integer.MAX_VALUE - 1, Integer.MAX_VALUE,
    };
    private static final Due DUE = new Due();

    private final Random random;
    private final List<Method> methods;

    private WildTest(int seed, List<Method> methods) {
        random = new Random(seed);
        this.methods = methods;
    }

    public static void main(String[] args) throws IllegalAccessException {
        List<Method> methods = new ArrayList<>();
        for (Method method : GuardedInodes.class.getDeclaredMethods()) {
            if (Modifier.isPublic(method.getModifiers())) {
                methods.add(method);
            }
        }
        // The machine tells them in any order; the calls are to be the same ones each time.
        methods.sort(Comparator.comparing(Method::getName));
        for (int seed = 0; seed < RUNS && !DUE.failed(); seed++) {
            new WildTest(seed, methods).run(seed);
        }
        DUE.end();
    }

    private void run(int seed) throws IllegalAccessException {
        GuardedInodes x = started();
        for (int call = 0; call < CALLS && !DUE.failed(); call++) {
            Method method = methods.get(random.nextInt(methods.size()));
            Object[] arguments = arguments(method.getParameterTypes());
            String thrown = "nothing";
            try {
                method.invoke(x, arguments);
            } catch (InvocationTargetException e) {
                thrown = e.getCause() + " for " + List.of(arguments);
            }
            DUE.holds("run " + seed + " call " + call + " " + method.getName() + " throws " + thrown, thrown.equals("nothing"));
        }
    }

    /** Something lies there already, since wild calls alone would seldom come to files with data. */
    private static GuardedInodes started() {
        GuardedInodes x = new GuardedInodes();
        x.create(1, 0, 1, 511);
        x.create(2, 0, 2, 511);
        x.create(3, 2, 1, 511);
        x.write(1, 1, 700, 8, 1);
        x.write(3, 3, 60, 8, 1);
        return x;
    }

    private Object[] arguments(Class<?>[] types) {
        Object[] arguments = new Object[types.length];
        for (int i = 0; i < types.length; i++) {
            if (types[i] == boolean.class) {
                arguments[i] = random.nextBoolean();
            } else if (types[i] == long.class) {
                arguments[i] = random.nextLong();
            } else {
                arguments[i] = number();
            }
        }
        return arguments;
    }

    /** Mostly small, so that the calls come to something, else an edge or anything. */
    private int number() {
        int pick = random.nextInt(12);
        if (pick == 0) {
            return random.nextInt();
        }
        return pick == 1 ? EDGES[random.nextInt(EDGES.length)] : random.nextInt(pick < 4 ? 512 : 4);
    }
}
