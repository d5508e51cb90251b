import java.lang.reflect.InvocationTargetException;
import java.lang.reflect.Method;
import java.lang.reflect.Modifier;
import java.util.ArrayList;
import java.util.Arrays;
import java.util.Comparator;
import java.util.List;
import java.util.Random;

/** Every method with the ends of int and the edges of each range, in houses from empty to full: no call throws. */
public final class ExtremesTest {
    private static final int[] EDGES = {Integer.MIN_VALUE, Integer.MIN_VALUE + 1, -1000000, -100, -99, -2, -1, 0, 1, 2, 3, 4, 5, 6, 7, 8,
        9, 10, 11, 23, 24, 25, 99, 100, 269, 270, 271, 299, 300, 301, 3599, 3600, 9999, 10000, 10001, Integer.MAX_VALUE - 1,
        Integer.MAX_VALUE};

    public static void main(String[] args) throws IllegalAccessException {
        List<Method> methods = new ArrayList<>();
        for (Method m : WaveHouse.class.getDeclaredMethods()) {
            if (Modifier.isPublic(m.getModifiers())) {
                methods.add(m);
            }
        }
        methods.sort(Comparator.comparing(Method::getName));
        Random random = new Random(7);
        for (int run = 0; run < 100 * methods.size(); run++) {
            WaveHouse x = new WaveHouse();
            Method favourite = methods.get(run % methods.size());
            for (int call = 0; call < House.CALLS; call++) {
                // One method is called more than all others, so that each thing there is gets full in some run.
                boolean other = call < 40 || random.nextInt(3) == 0;
                call(x, other ? methods.get(random.nextInt(methods.size())) : favourite, random);
            }
        }
        Due.end();
    }

    private static void call(WaveHouse x, Method m, Random random) throws IllegalAccessException {
        Object[] values = new Object[m.getParameterCount()];
        boolean small = random.nextBoolean();
        for (int i = 0; i < values.length; i++) {
            boolean truth = m.getParameterTypes()[i] == boolean.class;
            int number = small ? random.nextInt(4) : EDGES[random.nextInt(EDGES.length)];
            values[i] = truth ? (Object) random.nextBoolean() : (Object) number;
        }
        boolean thrown = false;
        try {
            m.invoke(x, values);
        } catch (InvocationTargetException e) {
            thrown = true;
            System.out.println(e.getCause());
        }
        Due.is(thrown ? m.getName() + Arrays.toString(values) + " throws" : "", thrown, false);
    }
}
