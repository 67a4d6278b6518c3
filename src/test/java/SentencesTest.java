import java.io.File;
import java.lang.reflect.Method;
import java.nio.file.Files;
import java.nio.file.Path;
import java.util.ArrayList;
import java.util.Arrays;
import java.util.List;
import java.util.regex.Matcher;
import java.util.regex.Pattern;

/**
 * Each sentence of the document that names a boundary has a test that quotes it: whatever names one in
 * ../shared/DOC.md (a number, an answer, a least, a most, a first) stands inside such a quotation.
 */
public final class SentencesTest {
    private static final Pattern BOUNDARY = Pattern.compile(
        "-?\\d+|\\b(BAD|STATE|FULL|NONE|NULL|INDEX|CAST|SIZE|most|least|first|several|latest|empty|whole|nobody|nothing|none|no|more|less|fewer|above|below)\\b");

    public static void main(String[] args) throws Exception {
        String doc = Files.readString(Path.of("../shared/DOC.md"));
        String[] parts = doc.split("\n## Promise ");
        Due.is("promises of the document", parts.length - 1, 42);
        List<Method> tests = edges();
        for (int promise = 0; promise < parts.length; promise++) {
            covered(promise, promise == 0 ? terms(parts[0]) : promised(parts[promise]), tests);
        }
        Due.finish();
    }

    /** Ahead of the promises the face is FaceTest's matter; what it is and the terms, up to the calls' list, are left. */
    private static String terms(String part) {
        String used = part.replaceAll("(?s).*?(An object is used.*?)\n## The public face.*?\n## Terms\n(.*?)\nAhead of the calls.*", "$1 $2");
        // The signs that part one part from another, and the fences of what is set apart.
        return flat(used.replaceAll("======== [12] |```text|```", ""));
    }

    /** Behind its heading and its call. */
    private static String promised(String part) {
        return flat(part.replaceAll("(?s)^.*?`[^`]*`:", "").replaceAll("(?s)\n## .*", ""));
    }

    private static String flat(String text) {
        return text.replaceAll("\\s+", " ").trim();
    }

    private static void covered(int promise, String text, List<Method> tests) {
        boolean[] quoted = new boolean[text.length()];
        for (Method test : tests) {
            Sentence about = test.getAnnotation(Sentence.class);
            if (about.promise() != promise) {
                continue;
            }
            String name = promise == 0 ? "(terms|whatItIs)[A-Z].*" : String.format("p%02d[A-Z].*", promise);
            Due.holds(test + " is named after its promise", test.getName().matches(name));
            int at = text.indexOf(about.says());
            Due.holds(test + " quotes promise " + promise + ": " + about.says(), at >= 0);
            for (; at >= 0; at = text.indexOf(about.says(), at + 1)) {
                Arrays.fill(quoted, at, at + about.says().length(), true);
            }
        }
        Matcher named = BOUNDARY.matcher(text);
        while (named.find()) {
            Due.holds("promise " + promise + ": '" + named.group() + "' is quoted by a test, in: ..."
                + text.substring(Math.max(0, named.start() - 40), Math.min(text.length(), named.end() + 40)), quoted[named.start()]);
        }
    }

    private static List<Method> edges() throws Exception {
        List<Method> tests = new ArrayList<>();
        for (File file : new File("src/test/java").listFiles()) {
            if (file.getName().endsWith("EdgesTest.java")) {
                for (Method m : Class.forName(file.getName().replace(".java", "")).getDeclaredMethods()) {
                    if (m.isAnnotationPresent(Sentence.class)) {
                        tests.add(m);
                    }
                }
            }
        }
        return tests;
    }
}
