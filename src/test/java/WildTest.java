import java.lang.reflect.InvocationTargetException;
import java.lang.reflect.Method;
import java.util.ArrayList;
import java.util.List;
import java.util.Random;

/** No call may ever throw, nor fail to end: calls with any numbers, in any order, and texts of any bytes. */
public final class WildTest {
    private static final int RUNS = 300;
    private static final int CALLS = 512;
    private static final int[] EDGES = {Integer.MIN_VALUE, Integer.MIN_VALUE + 1, -1_000_001, -721, -2, -1, 0, 1, 2, 3, 4, 8,
        11, 12, 19, 20, 39, 40, 41, 59, 60, 364, 365, 500, 1_439, 1_440, 9_998, 9_999, 10_000, 86_399, 86_400, 86_401, 172_800,
        899_990_000, 900_000_000, 900_000_001, Integer.MAX_VALUE - 1, Integer.MAX_VALUE};
    private static final String BYTES = "   \n:;<>=+-*/%(),{}0123456789ifthenelsewaituntilstampparseagain";

    public static void main(String[] args) throws IllegalAccessException {
        List<Method> methods = new ArrayList<>();
        for (Method method : LeapNet.class.getMethods()) {
            if (method.getDeclaringClass() == LeapNet.class) {
                methods.add(method);
            }
        }
        methods.sort((a, b) -> a.getName().compareTo(b.getName()));
        for (int seed = 0; seed < RUNS; seed++) {
            run(new Random(seed), seed, methods);
        }
        Check.end("WildTest");
    }

    private static void run(Random random, int seed, List<Method> methods) throws IllegalAccessException {
        LeapNet net = new LeapNet();
        for (int call = 0; call < CALLS; call++) {
            Method method = methods.get(random.nextInt(methods.size()));
            Object[] numbers = new Object[method.getParameterCount()];
            for (int i = 0; i < numbers.length; i++) {
                int number = method.getName().equals("feed") ? bytes(random) : number(random);
                numbers[i] = method.getParameterTypes()[i] == long.class ? (Object) (long) number : (Object) number;
            }
            boolean ended = true;
            try {
                method.invoke(net, numbers);
            } catch (InvocationTargetException thrown) {
                ended = false;
                System.out.println("seed " + seed + ", call " + call + ": " + thrown.getCause());
            }
            Check.due(method.getName(), ended, true);
            Check.due("a STATUS", net.status() >= 0 && net.status() <= 12, true);
        }
    }

    private static int number(Random random) {
        int kind = random.nextInt(10);
        if (kind < 5) {
            return random.nextInt(4);
        }
        if (kind < 8) {
            return EDGES[random.nextInt(EDGES.length)];
        }
        return kind == 8 ? random.nextInt() : 86_400 * random.nextInt(10) + random.nextInt(5) - 2;
    }

    private static int bytes(Random random) {
        int four = 0;
        for (int i = 0; i < 4; i++) {
            int b = random.nextInt(40) == 0 ? random.nextInt(256) : BYTES.charAt(random.nextInt(BYTES.length()));
            four = four << 8 | b;
        }
        return four;
    }
}
