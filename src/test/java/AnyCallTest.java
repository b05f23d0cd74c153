import java.lang.reflect.InvocationTargetException;
import java.lang.reflect.Method;
import java.lang.reflect.Modifier;
import java.util.ArrayList;
import java.util.Comparator;
import java.util.List;
import java.util.Random;

/** No call throws, whatever its arguments; and the same calls give the same answers. */
public final class AnyCallTest {
    private static final int[] EDGES = {Integer.MIN_VALUE, -1000, -401, -400, -60, -1, 0, 0, 1, 1, 2, 3, 4, 5, 7, 8, 9, 10,
        15, 16, 20, 24, 31, 32, 47, 48, 64, 119, 120, 256, 400, 999, 1024, 16777215, Integer.MAX_VALUE};
    private static final String[] TEXTS = {"1 10,10 20,10 20,20 10,20 10,12", "2 0,0 47,31 47,0", "0*5 (1 2 -)*4 3",
        "abc=3 d=5", "a3 b1 c4 d1", "paper 300", "layer 0 1", "layer 1 0", "over 1 0", "shift 1 5 -5", "matte 0 1",
        "fade 0 1 3 9", "blur 1", "sparks 5 20 20 9 65535", "1 -2 100 -100", "", "x", "1 ", "(", "a=", "over 9 9"};

    public static void main(String[] args) throws IllegalAccessException {
        Checks checks = new Checks();
        List<Method> methods = new ArrayList<>();
        for (Method method : CartoonHouse.class.getDeclaredMethods()) {
            if (Modifier.isPublic(method.getModifiers())) {
                methods.add(method);
            }
        }
        methods.sort(Comparator.comparing(Method::getName));
        for (int seed = 0; seed < 60; seed++) {
            checks.due("run " + seed + " once more", run(methods, seed, checks), run(methods, seed, checks));
        }
        checks.end();
    }

    private static int run(List<Method> methods, int seed, Checks checks) throws IllegalAccessException {
        Random random = new Random(seed);
        CartoonHouse house = new CartoonHouse();
        int sum = 0;
        for (int call = 0; call < 512; call++) {
            Method method = methods.get(random.nextInt(methods.size()));
            if (random.nextInt(3) == 0) {
                house.end(0);
                Checks.text(house, TEXTS[random.nextInt(TEXTS.length)]);
            }
            Object[] values = new Object[method.getParameterCount()];
            for (int k = 0; k < values.length; k++) {
                values[k] = random.nextInt(4) > 0 ? (Object) random.nextInt(6) : EDGES[random.nextInt(EDGES.length)];
            }
            try {
                sum = sum * 31 + (Integer) method.invoke(house, values);
            } catch (InvocationTargetException thrown) {
                checks.due("run " + seed + " " + method.getName(), "no exception", thrown.getCause().toString());
            }
        }
        return sum;
    }
}
