import java.io.IOException;
import java.nio.file.Files;
import java.nio.file.Path;
import java.util.Map;
import java.util.TreeMap;

/** The document's sentences: a test of an edge says which one it is for, and in the end none may be without a test. */
final class Doc {
    private static final Path PLACE = Path.of("../shared/DOC.md");
    private static final Map<Integer, String> TEXTS = new TreeMap<>();
    private static final Map<Integer, boolean[]> QUOTED = new TreeMap<>();
    private static final int TERMS = 0;

    private Doc() {
    }

    static void open() throws IOException {
        if (!Files.isReadable(PLACE)) {
            System.out.println("there is no " + PLACE + " here: which sentences have a test is not looked up");
            return;
        }
        int section = -1;
        for (String line : Files.readAllLines(PLACE)) {
            if (line.startsWith("## ")) {
                section = sectionOf(line);
            } else if (section >= 0 && !line.startsWith("```") && !line.startsWith("Ahead of the calls")) {
                // A promise begins with its call, which is no sentence.
                TEXTS.merge(section, line.strip().replaceFirst("^`[^`]*`: ", ""), (a, b) -> (a + " " + b).strip());
            }
        }
        TEXTS.forEach((number, text) -> QUOTED.put(number, new boolean[text.length()]));
        Due.is("sections of the document", TEXTS.size(), 38);
    }

    private static int sectionOf(String heading) {
        if (heading.equals("## Terms")) {
            return TERMS;
        }
        return heading.startsWith("## Promise ") ? Integer.parseInt(heading.replaceAll("^## Promise (\\d+):.*", "$1")) : -1;
    }

    static void terms(String sentence) {
        quote(TERMS, sentence);
    }

    static void promise(int number, String sentence) {
        quote(number, sentence);
    }

    private static void quote(int section, String sentence) {
        Due.about((section == TERMS ? "Terms" : "Promise " + section) + ", \"" + sentence + "\"");
        String text = TEXTS.get(section);
        if (text == null) {
            return;
        }
        int at = text.indexOf(sentence);
        Due.holds("the sentence stands in the document", at >= 0);
        Due.holds("it stands there once", at == text.lastIndexOf(sentence));
        for (int i = 0; at >= 0 && i < sentence.length(); i++) {
            QUOTED.get(section)[at + i] = true;
        }
    }

    /** What no test has quoted is printed, and is a fault. */
    static void close() {
        TEXTS.forEach((section, text) -> {
            StringBuilder left = new StringBuilder();
            for (int i = 0; i < text.length(); i++) {
                left.append(QUOTED.get(section)[i] ? ' ' : text.charAt(i));
            }
            // The numbers of the sections 1, 2 and 3 stand between sentences.
            String bare = left.toString().replaceAll("\\b[123]\\.", "").replaceAll("\\s+", " ").strip();
            Due.about(section == TERMS ? "Terms" : "Promise " + section);
            Due.holds("each sentence has a test, but not \"" + bare + "\"", bare.isEmpty());
        });
    }
}
