import java.nio.file.Files;
import java.nio.file.Path;
import java.util.regex.Matcher;
import java.util.regex.Pattern;

/** Some rules of LANGUAGE.md that can be seen in the program's text. It runs from the project's folder. */
public final class LanguageTest {
    private static final int MOST_LINES = 60;
    private static final int MOST_CLASSES = 12;

    public static void main(String[] args) throws Exception {
        String text = Files.readString(Path.of("src/main/java/TensorForge.java"));
        String code = text.replaceAll("(?s)/\\*.*?\\*/", "").replaceAll("//.*", "").replaceAll("\"[^\"\n]*\"", "\"\"");
        for (String wrong : new String[] {"->", "::", "\\bfinally\\b", "\\bsynchronized\\b", "\\bassert\\b", "Exact\\b",
            "\\bpackage\\b", "\\bgetMessage\\b", "\"\" *\\+", "\\+ *\"\"", "String\\[",
            "\\bSystem\\.(?!arraycopy)", "\\bArrays\\.(?!fill|copyOf)", "\\bprotected\\b",
            "import (?!java\\.util\\.(Arrays|ArrayList|List|Iterator|NoSuchElementException);)", "static \\{",
            "\\bwhile \\(true\\)"}) {
            Matcher found = Pattern.compile(wrong).matcher(code);
            Check.holds("no " + wrong, !found.find());
        }
        Matcher thrown = Pattern.compile("throw (?!new (IllegalStateException|IllegalArgumentException"
                + "|IndexOutOfBoundsException|ArithmeticException|UnsupportedOperationException|NoSuchElementException"
                + "|RuntimeException)\\((\"\")?\\);)").matcher(code);
        Check.holds("exceptions of rule 6 alone", !thrown.find());
        Matcher type = Pattern.compile("\\b(class|record|enum|interface) \\w").matcher(code);
        int classes = 0;
        while (type.find()) {
            classes++;
        }
        Check.holds("at most " + MOST_CLASSES + " classes", classes <= MOST_CLASSES);
        methods(text.split("\n"));
        Check.finish();
    }

    private static void methods(String[] lines) {
        for (int from = 0; from < lines.length; from++) {
            Matcher head = Pattern.compile("^( {4}| {8})\\S.*[(,]?.*\\{$").matcher(lines[from]);
            if (head.matches() && !lines[from].contains(" class ")) {
                int to = from;
                while (to < lines.length && !lines[to].equals(head.group(1) + "}")) {
                    to++;
                }
                Check.holds("at most " + MOST_LINES + " lines: " + lines[from].trim(), to - from < MOST_LINES);
            }
        }
    }
}
