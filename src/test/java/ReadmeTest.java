import java.io.IOException;
import java.lang.reflect.Method;
import java.nio.file.Files;
import java.nio.file.Path;
import java.util.HashMap;
import java.util.Map;
import java.util.regex.Matcher;
import java.util.regex.Pattern;

/** Makes the calls of README.md's examples: each answers what stands behind it there. */
public final class ReadmeTest {
    private static final String NEW_OBJECT = "FleetStores fleet = new FleetStores();";
    // An answer perhaps with a name, the call's name, its arguments, the answer that is told.
    private static final Pattern CALL =
        Pattern.compile("(?:int (\\w+) = )?fleet\\.(\\w+)\\((.*?)\\); +// (true|false|-?[0-9]+):.*");
    private static final int LEAST_CALLS = 20;

    private final FleetStores fleet = new FleetStores();
    private final Map<String, Long> named = new HashMap<>();

    public static void main(String[] args) throws IOException, ReflectiveOperationException {
        ReadmeTest example = null;
        boolean inside = false;
        int calls = 0;
        for (String line : Files.readAllLines(Path.of("README.md"))) {
            if (line.startsWith("```")) {
                inside = line.equals("```java");
                example = null;
            } else if (inside && line.equals(NEW_OBJECT)) {
                example = new ReadmeTest();
            } else if (inside) {
                Matcher call = CALL.matcher(line);
                boolean canBeMade = example != null && call.matches();
                Check.yes("a call with its answer: " + line, canBeMade);
                if (canBeMade) {
                    example.make(call);
                    calls++;
                }
            }
        }
        Check.yes(calls + " calls were found", calls >= LEAST_CALLS);
        Check.end();
    }

    private void make(Matcher call) throws ReflectiveOperationException {
        String[] told = call.group(3).isEmpty() ? new String[0] : call.group(3).split(", ");
        long answer = answerOf(methodOf(call.group(2)), told);
        String due = call.group(4);
        Check.due(call.group(), answer, due.equals("true") ? 1 : due.equals("false") ? 0 : Long.parseLong(due));
        if (call.group(1) != null) {
            named.put(call.group(1), answer);
        }
    }

    private static Method methodOf(String name) throws NoSuchMethodException {
        for (Method method : FleetStores.class.getDeclaredMethods()) {
            if (method.getName().equals(name)) {
                return method;
            }
        }
        throw new NoSuchMethodException(name);
    }

    private long answerOf(Method method, String[] told) throws ReflectiveOperationException {
        Object[] arguments = new Object[told.length];
        for (int i = 0; i < told.length; i++) {
            boolean isLong = method.getParameterTypes()[i] == long.class;
            arguments[i] = isLong ? (Object) valueOf(told[i]) : (Object) (int) valueOf(told[i]);
        }
        Object answer = method.invoke(fleet, arguments);
        return answer instanceof Boolean ? ((Boolean) answer ? 1 : 0) : (Integer) answer;
    }

    private long valueOf(String told) {
        return named.containsKey(told) ? named.get(told) : Long.decode(told.replace("L", ""));
    }
}
