import java.lang.reflect.Method;
import java.nio.file.Files;
import java.nio.file.Path;
import java.util.regex.Matcher;
import java.util.regex.Pattern;

/** README.md says how to use the class: its examples answer what it says, and it names every call. */
public final class ReadmeTest {
    private static final Pattern EXAMPLE = Pattern.compile("(?s)```java\n(.*?)```");
    private static final Pattern FED = Pattern.compile("for \\(char c : \"(.*)\"\\.toCharArray\\(\\)\\) x\\.feed\\(c\\);");
    private static final Pattern ASKED = Pattern.compile("x\\.(\\w+)\\(([-\\d, ]*)\\); *// .*?(-?\\d+)( \\.\\.)?");
    private static final Pattern CALL = Pattern.compile("public (?:int|long) (\\w+)\\(([^)]*)\\);");

    public static void main(String[] args) throws Exception {
        String readme = Files.readString(Path.of("README.md"));
        Matcher example = EXAMPLE.matcher(readme);
        int examples = 0;
        while (example.find()) {
            examples++;
            answers(example.group(1).split("\n"));
        }
        Due.is("examples of README.md", examples, 4);
        namesEveryCall(readme);
        Due.finish();
    }

    private static void answers(String[] rows) throws Exception {
        Due.is("first row of an example: " + rows[0], rows[0].indexOf("TokenDoors x = new TokenDoors();"), 0);
        TokenDoors x = new TokenDoors();
        for (int i = 1; i < rows.length; i++) {
            Matcher fed = FED.matcher(rows[i]);
            Matcher asked = ASKED.matcher(rows[i]);
            if (fed.matches()) {
                Due.feed(x, fed.group(1));
            } else if (asked.matches()) {
                Due.is(rows[i], answer(x, asked.group(1), asked.group(2)), Long.parseLong(asked.group(3)));
            } else {
                Due.holds("a row that can be tested: " + rows[i], false);
            }
        }
    }

    private static long answer(TokenDoors x, String name, String numbers) throws Exception {
        String[] told = numbers.isEmpty() ? new String[0] : numbers.split(", ");
        Class<?>[] types = new Class<?>[told.length];
        Object[] values = new Object[told.length];
        for (int a = 0; a < told.length; a++) {
            types[a] = int.class;
            values[a] = Integer.valueOf(told[a]);
        }
        Method called = TokenDoors.class.getMethod(name, types);
        return ((Number) called.invoke(x, values)).longValue();
    }

    private static void namesEveryCall(String readme) throws Exception {
        Matcher call = CALL.matcher(Files.readString(Path.of("../shared/DOC.md")));
        int calls = 0;
        while (call.find()) {
            calls++;
            String told = "`" + call.group(1) + "(" + call.group(2).replace("int ", "") + ")`";
            Due.holds("README.md names " + told, readme.contains(told));
        }
        Due.is("calls of the document's face", calls, 41);
    }
}
