import java.io.IOException;
import java.nio.file.Files;
import java.nio.file.Path;
import java.util.regex.Matcher;
import java.util.regex.Pattern;

/** Rules of LANGUAGE.md that show in the text of the program; .ci/run starts the tests in the project's folder. */
final class RulesTest {
    private static final String[] FORBIDDEN = {
        "->", "::", "\\bfinally\\b", "\\bsynchronized\\b", "\\bassert\\b", "\\bcatch\\b", "Exact\\(", "\"",
        "\\binstanceof\\b", "\\bprotected\\b", "\\bNaN\\b", "\\bSystem\\.(?!arraycopy)", "\\bgetClass\\b",
        "\\bRandom\\b", "\\bThread\\b", "\\bextends\\b", "\\bvar\\b", "while \\(true\\)", "for \\(;;\\)",
    };

    private static final String NO_LINE = "-";

    private static String program() throws IOException {
        String text = Files.readString(Path.of("src/main/java/Carcasswright.java"));
        return text.replaceAll("(?s)/\\*.*?\\*/", "").replaceAll("//[^\n]*", "");
    }

    static void rule04_onlyWhatTheLanguageLists() throws IOException {
        String text = program();
        for (String forbidden : FORBIDDEN) {
            Check.same("found " + forbidden, false, Pattern.compile(forbidden).matcher(text).find());
        }
        Matcher imports = Pattern.compile("import ([^;]*);").matcher(text);
        while (imports.find()) {
            Check.same("import", "java.util.NoSuchElementException", imports.group(1));
        }
    }

    static void rule05_staticFieldsAreConstants() throws IOException {
        for (String line : program().split("\n")) {
            boolean isField = line.contains("static ") && line.contains(" = ") && line.endsWith(";");
            Check.same(line, false, isField && !line.contains("static final int"));
        }
    }

    static void rule11_sizes() throws IOException {
        int classes = 0;
        int methodBegin = 0;
        String methodEnd = NO_LINE;
        String[] lines = program().split("\n");
        for (int i = 0; i < lines.length; i++) {
            Matcher head = Pattern.compile("((?: {4}){1,2})[\\w\\[\\] ]+\\w\\((.*)").matcher(lines[i]);
            if (head.matches() && !lines[i].endsWith(";")) {
                methodBegin = i;
                methodEnd = head.group(1) + "}";
                Check.same("few arguments: " + lines[i], true, head.group(2).split(",").length <= 7);
            } else if (lines[i].equals(methodEnd)) {
                Check.same("short: " + lines[methodBegin], true, i - methodBegin <= 60);
                methodEnd = NO_LINE;
            }
            classes += lines[i].matches(".* class \\w+ \\{") ? 1 : 0;
        }
        Check.same("classes", true, classes > 1 && classes <= 12);
    }

    private RulesTest() {
    }
}
