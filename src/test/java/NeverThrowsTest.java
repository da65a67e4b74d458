import java.lang.reflect.InvocationTargetException;
import java.lang.reflect.Method;
import java.lang.reflect.Modifier;
import java.util.ArrayList;
import java.util.Comparator;
import java.util.List;
import java.util.Random;

/** Any calls in any order with any arguments: none may throw, also beyond the 512th. */
public final class NeverThrowsTest {
    private static final int[] EDGES = {Integer.MIN_VALUE, Integer.MIN_VALUE + 1, Integer.MAX_VALUE, Integer.MAX_VALUE - 1,
        1 << 30, -(1 << 30), 1 << 16, 255, 256, 100, 65, 64, 63, 25, 24, 20, 19, 10000, 10007, 10063, 11015, 20000, 20001, 29999, 30000};

    private static Object argument(Class<?> type, Random dice) {
        if (type == boolean.class) return dice.nextInt(4) == 0;
        if (type == long.class) return dice.nextInt(2) == 0 ? dice.nextLong() : new long[] {0x613d62L, 0x623b613d62L, 0x612b31L}[dice.nextInt(3)];
        int kind = dice.nextInt(12);
        if (kind == 0) return EDGES[dice.nextInt(EDGES.length)];
        if (kind == 1) return dice.nextInt();
        return kind == 2 ? -dice.nextInt(5) : dice.nextInt(7);
    }

    public static void main(String[] args) throws IllegalAccessException {
        List<Method> calls = new ArrayList<>();
        for (Method m : CoatRings.class.getDeclaredMethods()) if (Modifier.isPublic(m.getModifiers())) calls.add(m);
        calls.sort(Comparator.comparing(Method::getName));
        int wrong = 0;
        for (int seed = 0; seed < 150; seed++) {
            Random dice = new Random(seed);
            CoatRings x = new CoatRings();
            for (int k = 0; k < 1500; k++) {
                Method m = calls.get(dice.nextInt(calls.size()));
                Object[] with = new Object[m.getParameterCount()];
                for (int a = 0; a < with.length; a++) with[a] = argument(m.getParameterTypes()[a], dice);
                try {
                    m.invoke(x, with);
                } catch (InvocationTargetException e) {
                    wrong++;
                    System.out.println("seed " + seed + ": " + m.getName() + List.of(with) + " threw " + e.getCause());
                }
            }
        }
        System.out.println(wrong == 0 ? "no call throws" : wrong + " calls threw");
        if (wrong != 0) System.exit(1);
    }
}
