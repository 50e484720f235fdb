import java.io.IOException;
import java.nio.file.Files;
import java.nio.file.Path;
import java.util.ArrayList;
import java.util.List;
import java.util.regex.Matcher;
import java.util.regex.Pattern;

/** Those rules of ../shared/LANGUAGE.md that a look at the program's words can check. */
public final class LanguageTest {
    private static final Path PROGRAM = Path.of("src/main/java/TitleFinder.java");
    private static final String[] RULED_OUT = {"throw", "throws", "try", "catch", "finally", "synchronized", "assert",
        "record", "volatile", "transient", "native", "protected", "package", "var", "Object", "System", "Random",
        "Thread", "equals", "hashCode", "toString", "->", "::", "@"};
    private static final int LONGEST_METHOD = 60;

    private LanguageTest() {
    }

    public static void main(String[] args) throws IOException {
        List<String> lines = Files.readAllLines(PROGRAM);
        List<String> code = withoutComments(lines);
        testWords(code);
        testImports(code);
        testStaticFields(code);
        testMethodLengths(code);
        for (int i = 0; i < lines.size(); i++) {
            boolean plain = lines.get(i).chars().allMatch(sign -> sign >= 32 && sign < 127);
            Checks.due("plain characters in line " + (i + 1), plain ? 1 : 0, 1);
        }
        Checks.end();
    }

    private static List<String> withoutComments(List<String> lines) {
        List<String> code = new ArrayList<>();
        for (String line : lines) {
            boolean comment = line.strip().startsWith("/") || line.strip().startsWith("*");
            code.add(comment ? "" : line);
        }
        return code;
    }

    private static void testWords(List<String> code) {
        for (String word : RULED_OUT) {
            boolean letters = Character.isLetter(word.charAt(0));
            Pattern pattern = Pattern.compile(letters ? "\\b" + word + "\\b" : Pattern.quote(word));
            for (int i = 0; i < code.size(); i++) {
                boolean found = pattern.matcher(code.get(i)).find();
                Checks.due("<" + word + "> in line " + (i + 1), found ? 1 : 0, 0);
            }
        }
    }

    private static void testImports(List<String> code) {
        for (String line : code) {
            if (line.startsWith("import ")) {
                Checks.dueText("import", line, "import java.util.ArrayList;");
            }
        }
    }

    private static void testStaticFields(List<String> code) {
        Pattern field = Pattern.compile("^\\s+((public|private) )?static (?!final )[\\w\\[\\]<>]+ \\w+( =.*)?;");
        for (int i = 0; i < code.size(); i++) {
            boolean found = field.matcher(code.get(i)).find();
            Checks.due("a static field that is not final in line " + (i + 1), found ? 1 : 0, 0);
        }
    }

    private static void testMethodLengths(List<String> code) {
        Pattern head = Pattern.compile("^( +)[\\w\\[\\]<> ]+\\([\\w\\[\\]<>, ]*\\) \\{$");
        for (int i = 0; i < code.size(); i++) {
            Matcher matcher = head.matcher(code.get(i));
            if (matcher.find() && !code.get(i).strip().matches("(if|for|while|switch) .*")) {
                int end = code.subList(i, code.size()).indexOf(matcher.group(1) + "}");
                Checks.due("a method of a fit length in line " + (i + 1), end > 0 && end < LONGEST_METHOD ? 1 : 0, 1);
                int parameters = code.get(i).split(",").length;
                Checks.due("seven parameters at most in line " + (i + 1), parameters <= 7 ? 1 : 0, 1);
            }
        }
    }
}
