import java.io.IOException;
import java.lang.reflect.Method;
import java.lang.reflect.Modifier;
import java.nio.file.Files;
import java.nio.file.Path;
import java.util.HashMap;
import java.util.Map;
import java.util.regex.Matcher;
import java.util.regex.Pattern;

/** The examples of README.md answer what it says behind them, one after another on one town; it names every call. */
public final class ReadmeTest {
    private static final Pattern EXAMPLE = Pattern.compile("^town\\.(\\w+)\\(([^)]*)\\);\\s+// (-?\\d+):.*");

    private ReadmeTest() {
    }

    public static void main(String[] args) throws IOException, ReflectiveOperationException {
        String readme = Files.readString(Path.of("README.md"));
        Map<String, Method> calls = calls();
        for (String name : calls.keySet()) {
            Due.holds("README.md tells of " + name, readme.contains("`" + name + "("));
        }
        runExamples(readme, calls);
        Due.end();
    }

    private static Map<String, Method> calls() {
        Map<String, Method> calls = new HashMap<>();
        for (Method m : BasinVotes.class.getDeclaredMethods()) {
            if (Modifier.isPublic(m.getModifiers())) {
                calls.put(m.getName(), m);
            }
        }
        return calls;
    }

    private static void runExamples(String readme, Map<String, Method> calls) throws ReflectiveOperationException {
        BasinVotes town = new BasinVotes();
        int examples = 0;
        for (String line : readme.split("\n")) {
            if (!line.startsWith("town.")) {
                continue;
            }
            examples++;
            Matcher m = EXAMPLE.matcher(line);
            boolean isExample = m.matches() && calls.containsKey(m.group(1));
            Due.holds("an example in its due form: " + line, isExample);
            if (isExample) {
                Due.is(line, answer(town, calls.get(m.group(1)), m.group(2)), Long.parseLong(m.group(3)));
            }
        }
        Due.holds("README.md has examples", examples > 0);
    }

    private static long answer(BasinVotes town, Method call, String told) throws ReflectiveOperationException {
        String[] parts = told.isEmpty() ? new String[0] : told.split(", ");
        Object[] arguments = new Object[parts.length];
        for (int i = 0; i < parts.length; i++) {
            long v = Long.decode(parts[i]);
            arguments[i] = call.getParameterTypes()[i] == long.class ? (Object) v : (Object) (int) v;
        }
        return ((Number) call.invoke(town, arguments)).longValue();
    }
}
