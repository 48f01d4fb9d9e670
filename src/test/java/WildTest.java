import java.lang.reflect.Method;
import java.lang.reflect.Modifier;
import java.util.ArrayList;
import java.util.Comparator;
import java.util.List;
import java.util.Random;

/** Any call with any numbers in any state ends and throws nothing; the same calls always give the same answers. */
public final class WildTest {
    private static final int[] EDGES = {0, 1, -1, 2, 3, 5, 7, 8, 12, 15, 16, 23, 24, 31, 40, 63, 64, 99, 160, 999, 1000,
        4095, 65535, 1 << 24, -2, -40, Integer.MAX_VALUE, Integer.MIN_VALUE, Integer.MAX_VALUE - 3, 1 << 31 | 1};

    public static void main(String[] args) throws Exception {
        Due due = new Due();
        List<Method> calls = new ArrayList<>();
        for (Method m : TruceLine.class.getDeclaredMethods()) {
            if (Modifier.isPublic(m.getModifiers())) calls.add(m);
        }
        calls.sort(Comparator.comparing(Method::getName));
        for (int seed = 0; seed < 150; seed++) {
            due.is("run " + seed, run(calls, seed), run(calls, seed));
        }
        due.end();
    }

    private static long run(List<Method> calls, int seed) throws Exception {
        Random random = new Random(seed);
        TruceLine x = new TruceLine();
        long sum = 0;
        for (int call = 0; call < 512; call++) {
            Method m = calls.get(random.nextInt(calls.size()));
            Object[] with = new Object[m.getParameterCount()];
            for (int i = 0; i < with.length; i++) {
                int n = number(random, seed);
                if (m.getParameterTypes()[i] == long.class) with[i] = signs(random);
                else with[i] = n;
            }
            sum = sum * 31 + ((Number) m.invoke(x, with)).longValue();
        }
        return sum;
    }

    private static int number(Random random, int seed) {
        int sort = random.nextInt(10);
        if (sort == 0) return random.nextInt();
        if (sort < 3) return EDGES[random.nextInt(EDGES.length)];
        return random.nextInt(sort < 7 ? 4 : 20 + seed % 50);
    }

    private static long signs(Random random) {
        String some = "breach shoot or and not size far strip hour kind heard 0123456789 ();+-*<= \n";
        int from = random.nextInt(some.length());
        long bytes = random.nextInt(20) == 0 ? random.nextLong() : 0;
        for (int i = 0; i < 8; i++) bytes = bytes << 8 ^ some.charAt((from + 7 - i) % some.length());
        return bytes;
    }
}
