import java.lang.reflect.InvocationTargetException;
import java.lang.reflect.Method;

/** No call throws, for any arguments in any state: each with edges, one beyond them, and far off. */
public final class AnyArgumentsTest {
    private static final int[] EDGES = {Integer.MIN_VALUE, -1, 0, 1, 3, 4, 7, 8, 40, 200, 300, Integer.MAX_VALUE};
    // Beyond so many choices only every 41st is made: 41 has no factor of 12, so each edge still comes.
    private static final int MOST_CHOICES = 80000;

    public static void main(String[] args) throws IllegalAccessException {
        for (Method m : FleetStores.class.getDeclaredMethods()) {
            if (java.lang.reflect.Modifier.isPublic(m.getModifiers())) {
                callOn(new FleetStores(), "new", m);
                callOn(Scene.busy(), "busy", m);
                callOn(full(), "full", m);
            }
        }
        Check.end();
    }

    private static FleetStores full() {
        FleetStores x = new FleetStores();
        for (int i = 0; i < 300; i++) {
            x.buy(i % 8, i % 10, i % 4, 5000, i % 8, 100000);
            x.week();
            x.survey(i % 8, i % 4, i / 2, 100000);
        }
        Check.feed(x, "b=1:2;".repeat(33) + "b=");
        return x;
    }

    private static void callOn(FleetStores x, String state, Method m) throws IllegalAccessException {
        Class<?>[] types = m.getParameterTypes();
        long choices = 1;
        for (int i = 0; i < types.length; i++) {
            choices *= EDGES.length;
        }
        int step = choices > MOST_CHOICES ? 41 : 1;
        int thrown = 0;
        for (long choice = 0; choice < choices; choice += step) {
            thrown += throwsFor(x, m, types, choice) ? 1 : 0;
        }
        Check.due(m.getName() + " on a " + state + " object: calls that threw", thrown, 0);
    }

    private static boolean throwsFor(FleetStores x, Method m, Class<?>[] types, long choice)
            throws IllegalAccessException {
        Object[] with = new Object[types.length];
        long rest = choice;
        for (int i = 0; i < types.length; i++) {
            int edge = EDGES[(int) (rest % EDGES.length)];
            rest /= EDGES.length;
            if (types[i] == long.class) {
                with[i] = edge * 4294967297L;
            } else {
                with[i] = edge;
            }
        }
        try {
            m.invoke(x, with);
            return false;
        } catch (InvocationTargetException thrown) {
            System.out.println(m.getName() + java.util.Arrays.toString(with) + " threw " + thrown.getCause());
            return true;
        }
    }
}
