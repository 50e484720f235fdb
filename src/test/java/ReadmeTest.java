import java.io.IOException;
import java.lang.reflect.Method;
import java.lang.reflect.Modifier;
import java.nio.file.Files;
import java.nio.file.Path;
import java.util.List;
import java.util.regex.Matcher;
import java.util.regex.Pattern;

/** README.md names all of the face, and its examples, one behind the other, answer what stands behind them. */
public final class ReadmeTest {
    private static final Path README = Path.of("README.md");
    private static final Pattern WRITE = Pattern.compile("write\\(finder, \"([^\"]*)\"\\);");
    private static final Pattern CALL = Pattern.compile("finder\\.(\\w+)\\((.*)\\);\\s+// (-?\\d+|[A-Z_]+)\\b.*");

    private ReadmeTest() {
    }

    public static void main(String[] args) throws ReflectiveOperationException, IOException {
        List<String> lines = Files.readAllLines(README);
        testFaceIsNamed(String.join("\n", lines));
        testExamples(lines);
        Checks.end();
    }

    private static void testFaceIsNamed(String readme) throws ReflectiveOperationException {
        for (Method method : TitleFinder.class.getDeclaredMethods()) {
            if (Modifier.isPublic(method.getModifiers())) {
                boolean named = readme.contains("`" + method.getName() + "(");
                Checks.due("README.md names " + method.getName(), named ? 1 : 0, 1);
            }
        }
        for (String name : List.of("NO_SUCH", "BAD_VALUE", "NOT_POSSIBLE", "LIMIT", "BAD_TEXT", "NONE")) {
            String row = "| `" + name + "` | " + TitleFinder.class.getField(name).getInt(null) + " |";
            Checks.due("README.md has the row " + row, readme.contains(row) ? 1 : 0, 1);
        }
        Checks.due("README.md tells of 512 calls", readme.contains("at most 512 calls") ? 1 : 0, 1);
    }

    private static void testExamples(List<String> lines) throws ReflectiveOperationException {
        TitleFinder finder = new TitleFinder();
        int answers = 0;
        for (String line : lines) {
            Matcher write = WRITE.matcher(line);
            Matcher call = CALL.matcher(line);
            if (write.matches()) {
                Checks.write(finder, write.group(1));
            } else if (call.matches()) {
                Checks.due("README.md: " + line, answer(finder, call.group(1), call.group(2)), meant(call.group(3)));
                answers++;
            } else {
                Checks.due("README.md: a call that this test reads: " + line, line.startsWith("finder.") ? 0 : 1, 1);
            }
        }
        Checks.due("README.md has examples", answers > 0 ? 1 : 0, 1);
    }

    private static long answer(TitleFinder finder, String name, String list) throws ReflectiveOperationException {
        String[] words = list.isEmpty() ? new String[0] : list.split(", ");
        Class<?>[] types = new Class<?>[words.length];
        Object[] values = new Object[words.length];
        for (int i = 0; i < words.length; i++) {
            types[i] = int.class;
            values[i] = words[i].startsWith("'") ? (int) words[i].charAt(1) : Integer.parseInt(words[i]);
        }
        Object answer = TitleFinder.class.getMethod(name, types).invoke(finder, values);
        return ((Number) answer).longValue();
    }

    private static long meant(String word) throws ReflectiveOperationException {
        boolean constant = Character.isLetter(word.charAt(0));
        return constant ? TitleFinder.class.getField(word).getInt(null) : Long.parseLong(word);
    }
}
