import java.lang.reflect.InvocationTargetException;
import java.lang.reflect.Method;
import java.util.ArrayList;
import java.util.Arrays;
import java.util.Comparator;
import java.util.HashMap;
import java.util.List;
import java.util.Map;
import java.util.Random;

/** Long seeded runs of calls on BasinVotes and on Model: every answer must be the same. */
public final class ModelTest {
    private static final int RUNS = 400;
    private static final int CALLS = 512;
    private static final String[] WORDS = {"thrower", "lady", "boy", "stranger", "agent", "diver", "left", "right", "bribe",
        "away", "leans", "pence", ";", ";", "0", "1", "5", "6", "7", "63", "64", "9999", "10000", "x", "#"};

    private final Random random;
    private final BasinVotes town = new BasinVotes();
    private final Model model = new Model();
    private final Map<String, Method> methods = new HashMap<>();
    private final List<String> names = new ArrayList<>();
    private final int run;
    private int calls = 0;

    private ModelTest(int run) {
        this.run = run;
        random = new Random(run);
        for (Method m : BasinVotes.class.getDeclaredMethods()) {
            if (java.lang.reflect.Modifier.isPublic(m.getModifiers())) {
                methods.put(m.getName(), m);
                names.add(m.getName());
            }
        }
        names.sort(Comparator.naturalOrder());
    }

    public static void main(String[] args) throws ReflectiveOperationException {
        for (int run = 0; run < RUNS && Due.allSoFar(); run++) {
            new ModelTest(run).go();
        }
        Due.end();
    }

    private void go() throws ReflectiveOperationException {
        int people = random.nextInt(9);
        for (int p = 0; p < people; p++) {
            both("person", random.nextInt(6));
        }
        while (calls < CALLS && Due.allSoFar()) {
            String name = names.get(random.nextInt(names.size()));
            if (name.equals("feed") && random.nextInt(3) > 0) {
                tellText();
            } else if (name.equals("book") && random.nextInt(2) == 0) {
                bookAndRead();
            } else if (!isSeldom(name) || random.nextInt(8) == 0) {
                both(name, argumentsFor(name));
            }
            if (random.nextInt(16) == 0) {
                lookAtAll();
            }
        }
    }

    // So that a run has people, a tape and an image for most of its calls.
    private static boolean isSeldom(String name) {
        return List.of("wipe", "town", "tear", "undo", "sheet", "person").contains(name);
    }

    private void both(String name, long... arguments) throws ReflectiveOperationException {
        if (calls == CALLS) {
            return;
        }
        calls++;
        Method m = methods.get(name);
        Object[] boxed = new Object[arguments.length];
        for (int i = 0; i < boxed.length; i++) {
            boxed[i] = m.getParameterTypes()[i] == long.class ? (Object) arguments[i] : (Object) (int) arguments[i];
        }
        long want = model.answer(name, arguments);
        String call = "run " + run + ", call " + calls + ": " + name + Arrays.toString(arguments);
        try {
            Due.is(call, ((Number) m.invoke(town, boxed)).longValue(), want);
        } catch (InvocationTargetException e) {
            Due.holds(call + " threw " + e.getCause(), false);
        }
    }

    private void lookAtAll() throws ReflectiveOperationException {
        both("now", 2 + random.nextInt(5));
        both("count", random.nextInt(4));
        both("status", random.nextInt(8) - 1);
        both("of", random.nextInt(8), random.nextInt(6));
        both("basin", random.nextInt(6), random.nextInt(3));
    }

    private void bookAndRead() throws ReflectiveOperationException {
        int s = random.nextInt(4);
        int person = random.nextInt(8);
        int n = random.nextInt(4) == 0 ? 40 : random.nextInt(6);
        both("sheet", s, random.nextInt(3) == 0 ? 8 : 16, n);
        both("book", s, person);
        both("read", s, person, random.nextInt(8));
        both("write", s, 0, random.nextInt(300));
    }

    private void tellText() throws ReflectiveOperationException {
        if (random.nextInt(4) > 0) {
            both("wipe");
        }
        String text = random.nextInt(3) == 0 ? wildText() : ruledText();
        for (int i = 0; i < text.length();) {
            int n = Math.min(1 + random.nextInt(4), text.length() - i);
            int bytes = random.nextInt();
            for (int k = 0; k < n; k++) {
                bytes = bytes << 8 | text.charAt(i + k);
            }
            both("feed", bytes, n);
            i += n;
        }
        both("town");
    }

    private String wildText() {
        StringBuilder text = new StringBuilder();
        int tokens = random.nextInt(12);
        for (int i = 0; i < tokens; i++) {
            text.append(WORDS[random.nextInt(WORDS.length)]).append(random.nextInt(8) == 0 ? "" : " ");
        }
        return text.toString();
    }

    private String ruledText() {
        StringBuilder text = new StringBuilder();
        int items = 1 + random.nextInt(4);
        for (int i = 0; i < items; i++) {
            text.append(i == 0 ? "" : ";").append(blanks()).append(ruledItem()).append(blanks());
        }
        if (random.nextInt(3) == 0) {
            text.setCharAt(random.nextInt(text.length()), (char) random.nextInt(256));
        }
        if (random.nextInt(5) == 0) {
            text.setLength(random.nextInt(text.length() + 1));
        }
        return text.toString();
    }

    private String ruledItem() {
        switch (random.nextInt(5)) {
            case 0:
                return "bribe " + (random.nextBoolean() ? "left" : "right");
            case 1:
                return (random.nextBoolean() ? "left " : "right") + random.nextInt(6) + " " + random.nextInt(10010);
            case 2:
                return "away " + random.nextInt(8);
            default:
                return Model.NAMES.get(random.nextInt(6)) + (random.nextBoolean() ? " leans " + random.nextInt(65) : "")
                    + (random.nextBoolean() ? " pence " + random.nextInt(10010) : "");
        }
    }

    private String blanks() {
        return random.nextInt(3) == 0 ? "  ".substring(random.nextInt(2)) : "";
    }

    private long[] argumentsFor(String name) {
        long[] a = new long[methods.get(name).getParameterCount()];
        for (int i = 0; i < a.length; i++) {
            a[i] = random.nextInt(40) == 0 ? wild() : tame(name, i);
        }
        return a;
    }

    private long wild() {
        int[] some = {-2, -1, 0, 6, 7, 8, 40, 41, 60, 61, 64, 100, 101, 200, 201, 9999, 10000, Integer.MIN_VALUE, Integer.MAX_VALUE};
        return random.nextInt(4) == 0 ? random.nextInt() : some[random.nextInt(some.length)];
    }

    private long pence() {
        int[] most = {5, 50, 400, 10000};
        int v = random.nextInt(most[random.nextInt(most.length)]);
        return random.nextInt(10) == 0 ? 9999 - v % 10 : v;
    }

    private long tame(String name, int i) {
        switch (name + i) {
            case "lies2": case "rich1":
                return pence();
            case "set2":
                return random.nextInt(3) == 0 ? pence() : random.nextInt(64);
            case "bribe0": case "lies1": case "acts2":
                return random.nextInt(2);
            case "held0":
                return random.nextInt(64);
            case "set1":
                return 1 + random.nextInt(3);
            case "days0":
                return 1 + random.nextInt(random.nextInt(4) == 0 ? 100 : 8);
            case "on1": case "then1": case "richest0":
                return random.nextInt(201);
            case "basin1": case "then2":
                return random.nextInt(3);
            case "kind1": case "buys2": case "swing0": case "pays0":
                return 1 + random.nextInt(60);
            case "lean1":
                return 1 + random.nextInt(40);
            case "sheet1":
                return new int[] {0, 8, 16, 64, 64}[random.nextInt(5)];
            case "sheet2":
                return random.nextInt(41);
            case "write1": case "copy1": case "copy3": case "copy4":
                return random.nextInt(8);
            case "write2":
                return random.nextInt(2) == 0 ? random.nextLong() : pence();
            case "feed0":
                return random.nextInt();
            case "feed1":
                return 1 + random.nextInt(4);
            case "sheet0": case "write0": case "copy0": case "copy2": case "lays0": case "book0": case "read0":
                return random.nextInt(4);
            case "status0": case "now0":
                return random.nextInt(8) - 1;
            case "count0":
                return random.nextInt(4);
            case "lies0": case "basin0": case "then0": case "flips0": case "acts1": case "of1": case "buys1":
            case "turn1": case "as1": case "person0":
                return random.nextInt(6);
            default:
                return random.nextInt(8);
        }
    }
}
