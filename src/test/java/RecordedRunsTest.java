import java.lang.reflect.InvocationTargetException;
import java.lang.reflect.Method;
import java.nio.file.Files;
import java.nio.file.Path;
import java.util.HashMap;
import java.util.Map;

/** Long mixed runs with the answers that two other, slower programs of the document gave. */
public final class RecordedRunsTest {
    private static final Check C = new Check();

    public static void main(String[] args) throws Exception {
        Map<String, Method> methods = new HashMap<>();
        for (Method m : BreedingHouse.class.getMethods()) {
            if (m.getDeclaringClass() == BreedingHouse.class) {
                methods.put(m.getName(), m);
            }
        }
        C.is("there are runs", goOver("runs.txt", methods) >= 50, true);
        C.is("there are runs of the second", goOver("runs-second.txt", methods) >= 30, true);
        C.end();
    }

    /** How many runs a file has. */
    private static int goOver(String file, Map<String, Method> methods) throws Exception {
        BreedingHouse house = null;
        int run = 0;
        for (String line : Files.readAllLines(Path.of("src", "test", "resources", file))) {
            if (line.equals("new")) {
                house = new BreedingHouse();
                run++;
            } else {
                int at = line.indexOf(" = ");
                C.is(file + " run " + run + ": " + line.substring(0, at),
                        call(house, methods, line.substring(0, at)), line.substring(at + 3));
            }
        }
        return run;
    }

    private static String call(BreedingHouse house, Map<String, Method> methods, String text) throws Exception {
        String[] words = text.split(" ");
        Method m = methods.get(words[0]);
        Class<?>[] types = m.getParameterTypes();
        Object[] values = new Object[types.length];
        for (int k = 0; k < types.length; k++) {
            long v = Long.parseLong(words[k + 1]);
            if (types[k] == int.class) {
                values[k] = (int) v;
            } else if (types[k] == boolean.class) {
                values[k] = v != 0;
            } else {
                values[k] = v;
            }
        }
        try {
            Object answer = m.invoke(house, values);
            return answer instanceof Boolean b ? (b ? "1" : "0") : answer.toString();
        } catch (InvocationTargetException e) {
            return "throws." + e.getCause().getClass().getSimpleName();
        }
    }
}
