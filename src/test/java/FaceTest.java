import java.lang.reflect.Constructor;
import java.lang.reflect.Field;
import java.lang.reflect.Member;
import java.lang.reflect.Method;
import java.lang.reflect.Modifier;
import java.util.ArrayList;
import java.util.Arrays;
import java.util.HashSet;
import java.util.List;
import java.util.Set;

/** The public face of the document, whole and with nothing beside it. */
public final class FaceTest {
    private static final String[] FACE = {
        "boolean men(int, int)", "boolean rations(int, int)", "boolean spoils(int, int, int)",
        "boolean way(int, int, int)", "boolean lag(int, int)", "int buy(int, int, int, int, int, int)",
        "int send(int, int, int)", "int week()", "int lot(int, int)", "int stock(int, int)",
        "int open(int, int)", "int lacks(int, int)", "int known(int, int, int)", "int lasts(int)",
        "int feed(int, int, int, int, int)", "boolean end(int)", "int fault()", "boolean contract(int)",
        "int draw(int, int, long)", "int due(int)", "int owed(int)", "int condemned(int)",
        "int survey(int, int, int, int)", "int balance(int, int)", "int began(int, int, int)", "int count(int)",
    };

    public static void main(String[] args) {
        Class<?> c = FleetStores.class;
        Check.yes("public and final", Modifier.isPublic(c.getModifiers()) && Modifier.isFinal(c.getModifiers()));
        methods(c);
        for (Field f : c.getDeclaredFields()) {
            Check.yes("field " + f.getName(), f.getName().equals("NONE") ? isPublic(f) : isPrivate(f));
        }
        Constructor<?>[] made = c.getDeclaredConstructors();
        Check.due("constructors", made.length, 1);
        Check.yes("a public one without arguments", isPublic(made[0]) && made[0].getParameterCount() == 0);
        for (Class<?> inside : c.getDeclaredClasses()) {
            int m = inside.getModifiers();
            Check.yes("class " + inside, Modifier.isStatic(m) && !Modifier.isPublic(m) && !Modifier.isProtected(m));
        }
        Check.end();
    }

    private static void methods(Class<?> c) {
        Set<String> due = new HashSet<>(Arrays.asList(FACE));
        Set<String> names = new HashSet<>();
        List<Method> others = new ArrayList<>();
        for (Method m : c.getDeclaredMethods()) {
            if (isPublic(m)) {
                names.add(m.getName());
                Check.yes("method " + told(m), due.remove(told(m)) && !Modifier.isStatic(m.getModifiers()));
            } else {
                others.add(m);
            }
        }
        Check.due("methods that are lacking: " + due, due.size(), 0);
        for (Class<?> inside : c.getDeclaredClasses()) {
            others.addAll(Arrays.asList(inside.getDeclaredMethods()));
        }
        for (Method m : others) {
            Check.no("the name of a public one: " + m, names.contains(m.getName()));
            Check.yes("private: " + m, isPrivate(m) || m.getDeclaringClass() != c);
        }
    }

    private static String told(Method m) {
        StringBuilder types = new StringBuilder();
        for (Class<?> p : m.getParameterTypes()) {
            types.append(types.length() == 0 ? "" : ", ").append(p.getName());
        }
        return m.getReturnType().getName() + " " + m.getName() + "(" + types + ")";
    }

    private static boolean isPublic(Member m) {
        return Modifier.isPublic(m.getModifiers());
    }

    private static boolean isPrivate(Member m) {
        return Modifier.isPrivate(m.getModifiers());
    }
}
