import java.io.IOException;
import java.nio.file.Files;
import java.nio.file.Path;
import java.util.regex.Matcher;
import java.util.regex.Pattern;

/** What of ../shared/LANGUAGE.md can be seen from the program's words; run in the project's folder. */
public final class LanguageTest {
    private static final String[] LEFT_OUT = {
        "->", "::", "\\b(synchronized|assert|finally|try|catch|throw|throws)\\b",
        "\\b(System|Thread|Random|Object|HashMap|Character|Exception)\\b", "Exact\\(",
        "\\b(equals|hashCode|toString)\\(", "\\+ \"", "\" \\+", "\\bprotected\\b",
        "\\bstatic (?!final\\b|boolean\\b|int\\b|long\\b|void\\b)", "^package\\b", "\\bstatic \\{"};

    public static void main(String[] args) throws IOException {
        String source = Files.readString(Path.of("src/main/java/ObjectTexts.java"));
        String code = source.replaceAll("(?s)/\\*.*?\\*/", "").replaceAll("//[^\n]*", "");
        for (String pattern : LEFT_OUT) {
            Matcher found = Pattern.compile(pattern, Pattern.MULTILINE).matcher(code);
            Checks.due("the program has " + pattern, found.find(), false);
        }
        Matcher imports = Pattern.compile("^import (.*);", Pattern.MULTILINE).matcher(code);
        while (imports.find()) {
            Checks.due("import", imports.group(1), "java.util.Arrays");
        }
        Checks.due("classes are few",
            Pattern.compile("\\b(class|enum|record|interface) [A-Z]").matcher(code).results().count()
                <= 12, true);
        Checks.finish();
    }
}
