import java.lang.reflect.InvocationTargetException;
import java.lang.reflect.Method;
import java.lang.reflect.Modifier;
import java.util.Random;

/** Every method with the ends of int and the edges of each range, in houses from empty to full: no call throws. */
public final class ExtremesTest {
    private static final int[] EDGES = {Integer.MIN_VALUE, Integer.MIN_VALUE + 1, -1000000, -100, -99, -2, -1, 0, 1, 2, 3, 4, 5, 6, 7, 8,
        9, 10, 11, 23, 24, 25, 99, 100, 269, 270, 271, 299, 300, 301, 3599, 3600, 9999, 10000, 10001, Integer.MAX_VALUE - 1,
        Integer.MAX_VALUE};

    public static void main(String[] args) throws IllegalAccessException {
        Random random = new Random(7);
        for (int run = 0; run < 300; run++) {
            WaveHouse x = new WaveHouse();
            for (int call = 0; call < 2000; call++) {
                for (Method m : WaveHouse.class.getDeclaredMethods()) {
                    if (Modifier.isPublic(m.getModifiers()) && (!m.getName().equals("schedule") || call % 100 == 0)) {
                        call(x, m, random);
                    }
                }
            }
        }
        Due.end();
    }

    private static void call(WaveHouse x, Method m, Random random) throws IllegalAccessException {
        Object[] values = new Object[m.getParameterCount()];
        boolean small = random.nextBoolean();
        for (int i = 0; i < values.length; i++) {
            boolean truth = m.getParameterTypes()[i] == boolean.class;
            values[i] = truth ? (Object) random.nextBoolean() : (Object) (small ? random.nextInt(4) : EDGES[random.nextInt(EDGES.length)]);
        }
        boolean thrown = false;
        try {
            m.invoke(x, values);
        } catch (InvocationTargetException e) {
            thrown = true;
            System.out.println(e.getCause());
        }
        Due.is(m.getName() + java.util.Arrays.toString(values) + " throws", thrown, false);
    }
}
