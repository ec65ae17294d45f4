import java.lang.reflect.InvocationTargetException;
import java.lang.reflect.Method;
import java.lang.reflect.Modifier;
import java.util.ArrayList;
import java.util.Arrays;
import java.util.Comparator;
import java.util.List;
import java.util.Random;

/** Any calls with any arguments in any state throw nothing but what the document lets them throw. */
public final class AnyCallTest {
    private static final Check CHECK = new Check();
    private static final int[] EDGES = {Integer.MIN_VALUE, Integer.MAX_VALUE, -2, -1, 0, 1, 3, 4, 5, 10, 13, 20, 30, 31,
        35, 36, 37, 40, 60, 99, 100, 900, 1 << 30};

    private static Object argument(Random random, Class<?> type) {
        if (type == boolean.class) {
            return random.nextBoolean();
        }
        int n = random.nextInt(3) == 0 ? EDGES[random.nextInt(EDGES.length)] : random.nextInt(random.nextBoolean() ? 4 : 40);
        if (type == long.class) {
            return random.nextInt(4) == 0 ? random.nextLong() : random.nextInt(4) == 0 ? 2000L + n : (long) n;
        }
        return n;
    }

    private static void call(HedgePark park, Method method, Random random) throws IllegalAccessException {
        Object[] arguments = Arrays.stream(method.getParameterTypes()).map(t -> argument(random, t)).toArray();
        try {
            method.invoke(park, arguments);
        } catch (InvocationTargetException e) {
            boolean told = Arrays.asList(method.getExceptionTypes()).contains(e.getCause().getClass());
            CHECK.due(method.getName() + Arrays.toString(arguments) + " throws " + e.getCause(), told ? 1 : 0, 1);
        }
    }

    public static void main(String[] args) throws IllegalAccessException {
        List<Method> calls = new ArrayList<>();
        for (Method m : HedgePark.class.getDeclaredMethods()) {
            if (Modifier.isPublic(m.getModifiers())) {
                calls.add(m);
            }
        }
        calls.sort(Comparator.comparing(Method::getName));
        for (int seed = 0; seed < 400; seed++) {
            Random random = new Random(seed);
            HedgePark park = new HedgePark();
            for (int i = 0; i < 500; i++) {
                if (i == 20 * (seed % 2) || random.nextInt(60) == 0) {
                    park = random.nextInt(5) == 0 ? new HedgePark() : park;
                    String text = Garden.random(random, 6).text();
                    if (park.count(9) == 0) {
                        Check.lay(park, text);
                    }
                }
                call(park, calls.get(random.nextInt(calls.size())), random);
            }
        }
        CHECK.end("AnyCallTest");
    }
}
