import java.io.PrintWriter;
import java.io.StringWriter;
import java.lang.reflect.Field;
import java.lang.reflect.Modifier;
import java.nio.file.Path;
import java.util.ArrayList;
import java.util.Arrays;
import java.util.HashMap;
import java.util.List;
import java.util.Map;
import java.util.Optional;
import java.util.Set;
import java.util.TreeSet;
import java.util.regex.Matcher;
import java.util.regex.Pattern;
import java.util.spi.ToolProvider;

/** What LANGUAGE.md says of library calls, depth, recursion and fields, by what the compiled classes call. */
public final class LanguageTest {
    private static final int DEEPEST = 8;
    private static final int MOST_FIELDS = 20;
    // What the program uses of the library's part that LANGUAGE.md leaves (rule 4); more of it may be put here when used.
    private static final Set<String> LIBRARY = Set.of("java/lang/Object.<init>", "java/lang/String.length",
        "java/lang/String.charAt", "java/lang/Math.min", "java/lang/Math.max", "java/lang/Integer.bitCount",
        "java/lang/System.arraycopy");
    private static final Pattern CLASS = Pattern.compile("^\\S.*class (\\S+) \\{");
    private static final Pattern METHOD = Pattern.compile("^  (?:\\S+ )*([\\w.$]+)\\(.*\\);");
    private static final Pattern CALL = Pattern.compile("// (?:Interface)?Method ([^:]+):");

    private LanguageTest() {
    }

    public static void main(String[] args) throws Exception {
        List<Class<?>> classes = new ArrayList<>(Arrays.asList(BasinVotes.class.getDeclaredClasses()));
        classes.add(BasinVotes.class);
        for (Class<?> c : classes) {
            fewFields(c);
        }
        Optional<ToolProvider> javap = ToolProvider.findFirst("javap");
        if (javap.isPresent()) {
            callsKeepToTheLanguage(callsOf(javap.get(), classes));
        } else {
            System.out.println("this Java has no javap: what the classes call is not looked up");
        }
        Due.end();
    }

    private static void fewFields(Class<?> c) {
        int fields = 0;
        for (Field f : c.getDeclaredFields()) {
            fields += Modifier.isStatic(f.getModifiers()) ? 0 : 1;
        }
        Due.holds(c.getName() + " has at most " + MOST_FIELDS + " fields", fields <= MOST_FIELDS);
    }

    /** For each method, those that it calls; methods of one name are taken as one, which can only tell more of them. */
    private static Map<String, Set<String>> callsOf(ToolProvider javap, List<Class<?>> classes) throws Exception {
        String place = Path.of(BasinVotes.class.getProtectionDomain().getCodeSource().getLocation().toURI()).toString();
        List<String> words = new ArrayList<>(List.of("-p", "-c", "-cp", place));
        for (Class<?> c : classes) {
            words.add(c.getName());
        }
        StringWriter told = new StringWriter();
        int code = javap.run(new PrintWriter(told), new PrintWriter(System.out), words.toArray(new String[0]));
        Due.is("javap", code, 0);
        return callsTold(told.toString());
    }

    private static Map<String, Set<String>> callsTold(String told) {
        Map<String, Set<String>> calls = new HashMap<>();
        String owner = "";
        Set<String> called = new TreeSet<>();
        for (String line : told.split("\\R")) {
            Matcher m = CLASS.matcher(line);
            if (m.find()) {
                owner = m.group(1);
                continue;
            }
            m = METHOD.matcher(line);
            if (m.find()) {
                String name = m.group(1).equals(owner) ? "<init>" : m.group(1);
                called = calls.computeIfAbsent(owner + "." + name, k -> new TreeSet<>());
                continue;
            }
            m = CALL.matcher(line);
            if (m.find()) {
                String name = m.group(1).replace("\"", "");
                called.add(name.contains(".") ? name : owner + "." + name);
            }
        }
        return calls;
    }

    private static void callsKeepToTheLanguage(Map<String, Set<String>> calls) {
        Due.holds("the public calls are among those found",
            calls.containsKey("BasinVotes.on") && calls.containsKey("BasinVotes.<init>"));
        calls.forEach((name, called) -> {
            for (String other : called) {
                Due.holds(name + " calls " + other + ", a method of its own or of the library's part",
                    calls.containsKey(other) || LIBRARY.contains(other));
            }
            int depth = depth(name, calls, new ArrayList<>());
            Due.holds(name + " goes " + depth + " calls deep, " + DEEPEST + " at most", depth <= DEEPEST);
        });
    }

    /** The library's calls count, too. */
    private static int depth(String name, Map<String, Set<String>> calls, List<String> above) {
        if (above.contains(name)) {
            Due.holds(name + " does not call itself: " + above, false);
            return 0;
        }
        above.add(name);
        int deepest = 0;
        for (String called : calls.getOrDefault(name, Set.of())) {
            deepest = Math.max(deepest, depth(called, calls, above));
        }
        above.remove(above.size() - 1);
        return deepest + 1;
    }
}
