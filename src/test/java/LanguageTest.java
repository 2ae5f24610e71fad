import java.io.IOException;
import java.nio.file.Files;
import java.nio.file.Path;
import java.util.List;
import java.util.regex.Matcher;
import java.util.regex.Pattern;

/** Those rules of LANGUAGE.md that can be seen from the words of the program's source. */
public final class LanguageTest {
    private static final Check CHECK = new Check("LanguageTest");
    private static final Path SOURCE = Path.of("src/main/java/ReturnsDesk.java");

    private static final List<String> FORBIDDEN = List.of(
            "\\bimport\\b", "\\bpackage\\b", "->", "::", "\\bfinally\\b", "\\bsynchronized\\b", "\\bassert\\b",
            "\\bstatic\\s*\\{", "\\btry\\b", "\\bcatch\\b", "\\w+Exact\\b", "\\bSystem\\.(?!arraycopy)",
            "\\bThread\\b", "\\b(equals|hashCode|toString)\\b", "\\bprotected\\b", "\\bvar\\b");
    private static final String THROWN =
            "(IllegalState|IllegalArgument|IndexOutOfBounds)Exception\\(\"\"\\)";

    public static void main(String[] args) throws IOException {
        String source = Files.readString(SOURCE);
        CHECK.is("signs are 1 to 127", true, source.chars().allMatch(sign -> sign >= 1 && sign <= 127));
        String code = withoutTexts(source);
        for (String word : FORBIDDEN) {
            CHECK.is("stands in the source: " + word, false, Pattern.compile(word).matcher(code).find());
        }
        Matcher thrown = Pattern.compile("\\bthrow\\s+new\\s+([^;]*);").matcher(code);
        while (thrown.find()) {
            CHECK.is("throw new " + thrown.group(1), true, thrown.group(1).matches(THROWN));
        }
        Matcher divisions = Pattern.compile("[/%]=?\\s*([^\\s;]+)").matcher(code);
        while (divisions.find()) {
            CHECK.is("divisor is a written number: " + divisions.group(), true,
                    divisions.group(1).matches("[1-9]\\d*"));
        }
        CHECK.end();
    }

    /** The source without its comments, its written texts empty. */
    private static String withoutTexts(String source) {
        String code = source.replaceAll("(?s)/\\*.*?\\*/", " ");
        return code.replaceAll("//[^\n]*", " ").replaceAll("\"[^\"\n]*\"", "\"\"");
    }
}
