import java.io.IOException;
import java.lang.management.ManagementFactory;
import java.lang.reflect.Constructor;
import java.lang.reflect.Field;
import java.lang.reflect.Method;
import java.lang.reflect.Modifier;
import java.nio.file.Files;
import java.nio.file.Path;
import java.util.ArrayList;
import java.util.Arrays;
import java.util.List;
import java.util.TreeSet;
import java.util.regex.Pattern;

/** The public face is the document's and no more; the source keeps to LANGUAGE.md; calls make no objects. */
public final class FaceTest {
    private static final Path SOURCE = Path.of("src/main/java/BasinVotes.java");
    private static final String[] FACE = {
        "int lies(int, int, int)", "int basin(int, int)", "int bribe(int)", "int held(int)", "int now(int)",
        "int person(int)", "int of(int, int)", "int acts(int, int, int)", "int set(int, int, int)", "int turn(int, int)",
        "int as(int, int)", "int days(int)", "int on(int, int)", "int then(int, int, int)", "int flips(int)",
        "int rich(int, int)", "int kind(int, int)", "int lean(int, int)", "int buys(int, int, int)", "int swing(int)",
        "int pays(int)", "int richest(int)", "int feed(int, int)", "int wipe()", "int town()", "int sheet(int, int, int)",
        "long write(int, int, long)", "int copy(int, int, int, int, int)", "int lays(int)", "int book(int, int)",
        "int read(int, int, int)", "int image()", "int undo()", "int tear()", "int count(int)", "int status(int)",
    };
    private static final String[] RULED_OUT = {
        "\\bthrow\\b", "\\btry\\b", "\\bcatch\\b", "\\bsynchronized\\b", "\\bassert\\b", "->", "::", "\\bimport\\b",
        "\\bpackage\\b", "\\bprotected\\b", "Exact\\(", "\\bRandom\\b", "\\bSystem\\.(?!arraycopy)", "\\bThread\\b",
    };

    private FaceTest() {
    }

    public static void main(String[] args) throws IOException {
        faceIsTheDocuments();
        namesInsideAreTheirOwn();
        sourceKeepsToTheLanguage();
        callsMakeNoObjects();
        Due.end();
    }

    private static String told(Method m) {
        List<String> types = new ArrayList<>();
        for (Class<?> type : m.getParameterTypes()) {
            types.add(type.getName());
        }
        return m.getReturnType().getName() + " " + m.getName() + "(" + String.join(", ", types) + ")";
    }

    private static void faceIsTheDocuments() {
        Class<?> c = BasinVotes.class;
        Due.holds("the class is public and final", Modifier.isPublic(c.getModifiers()) && Modifier.isFinal(c.getModifiers()));
        TreeSet<String> open = new TreeSet<>();
        for (Method m : c.getDeclaredMethods()) {
            if (!Modifier.isPrivate(m.getModifiers())) {
                open.add(told(m));
                Due.holds(told(m) + " is public and of an object", Modifier.isPublic(m.getModifiers()) && !Modifier.isStatic(m.getModifiers()));
            }
        }
        Due.holds("the face is the document's: " + open, open.equals(new TreeSet<>(Arrays.asList(FACE))));
        Constructor<?>[] made = c.getDeclaredConstructors();
        Due.holds("one public constructor without arguments",
            made.length == 1 && Modifier.isPublic(made[0].getModifiers()) && made[0].getParameterCount() == 0);
        for (Field f : c.getDeclaredFields()) {
            Due.holds("field " + f.getName() + " is private", Modifier.isPrivate(f.getModifiers()));
        }
    }

    private static void namesInsideAreTheirOwn() {
        TreeSet<String> open = new TreeSet<>();
        for (String call : FACE) {
            open.add(call.replaceAll("^\\w+ (\\w+)\\(.*", "$1"));
        }
        List<Class<?>> all = new ArrayList<>(Arrays.asList(BasinVotes.class.getDeclaredClasses()));
        Due.holds("at most twelve classes", all.size() < 12);
        all.add(BasinVotes.class);
        for (Class<?> c : all) {
            Due.holds(c.getName() + " is static, if inside", c == BasinVotes.class || Modifier.isStatic(c.getModifiers()));
            for (Method m : c.getDeclaredMethods()) {
                boolean isFace = c == BasinVotes.class && Modifier.isPublic(m.getModifiers());
                Due.holds(c.getName() + "." + m.getName() + " bears no public name", isFace || !open.contains(m.getName()));
                Due.holds(m.getName() + " takes at most seven", m.getParameterCount() <= 7);
            }
            for (Field f : c.getDeclaredFields()) {
                Due.holds(f.getName() + " is final, if static", !Modifier.isStatic(f.getModifiers()) || Modifier.isFinal(f.getModifiers()));
            }
        }
    }

    private static void sourceKeepsToTheLanguage() throws IOException {
        String source = Files.readString(SOURCE);
        String bare = source.replaceAll("(?s)/\\*.*?\\*/", "").replaceAll("//[^\n]*", "").replaceAll("\"[^\"\n]*\"", "\"\"");
        for (String word : RULED_OUT) {
            Due.holds("the source has none of " + word, !Pattern.compile(word).matcher(bare).find());
        }
        Due.holds("the source's signs are 1 to 127", source.chars().allMatch(c -> c >= 1 && c <= 127));
    }

    private static void callsMakeNoObjects() {
        if (!(ManagementFactory.getThreadMXBean() instanceof com.sun.management.ThreadMXBean bean)
            || !bean.isThreadAllocatedMemorySupported()) {
            return;
        }
        BasinVotes x = new BasinVotes();
        for (int kind = 0; kind < 6; kind++) {
            x.person(kind);
        }
        dearCalls(x);
        long before = bean.getCurrentThreadAllocatedBytes();
        long after = bean.getCurrentThreadAllocatedBytes();
        long asking = after - before;
        before = bean.getCurrentThreadAllocatedBytes();
        for (int i = 0; i < 100; i++) {
            dearCalls(x);
        }
        after = bean.getCurrentThreadAllocatedBytes();
        // Some bytes of slack for what the machine itself may make; an object a call would be far above it.
        Due.holds("calls make no objects, but made " + (after - before - asking) + " bytes", after - before - asking < 1000);
    }

    private static void dearCalls(BasinVotes x) {
        x.sheet(0, 16, 40);
        x.book(0, 1);
        x.read(0, 1, 2);
        x.copy(0, 0, 0, 1, 39);
        x.lean(1, 40);
        x.buys(1, 1, 60);
        x.swing(60);
        x.pays(60);
        x.kind(1, 60);
        x.flips(1);
        x.rich(1, 9999);
        x.image();
        x.days(100);
        x.feed(0x626F793B, 4);
        x.feed(0x61776179, 4);
        x.feed(0x2030, 2);
        x.town();
        x.undo();
        x.lies(9, 9, 9);
    }
}
