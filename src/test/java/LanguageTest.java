import java.io.IOException;
import java.nio.charset.StandardCharsets;
import java.nio.file.Files;
import java.nio.file.Path;
import java.util.List;
import java.util.regex.Pattern;

/** Those rules of LANGUAGE.md that can be seen in the text of the program. */
public final class LanguageTest {
    private static final Path PROGRAM = Path.of("src", "main", "java", "CoverSheet.java");

    private LanguageTest() {
    }

    public static void main(String[] args) throws IOException {
        List<String> lines = Files.readAllLines(PROGRAM, StandardCharsets.US_ASCII);
        StringBuilder code = new StringBuilder();
        for (String line : lines) {
            String bare = line.strip();
            boolean isComment = bare.startsWith("//") || bare.startsWith("/*") || bare.startsWith("*");
            code.append(isComment ? "" : line.replaceAll("\"[^\"]*\"", "\"\"")).append('\n');
        }
        words(code.toString());
        imports(code.toString());
        sizes(code.toString());
        Check.end("LanguageTest");
    }

    private static void words(String code) {
        String[] ruledOut = {
            "->", "::", "\\btry\\b", "\\bcatch\\b", "\\bfinally\\b", "\\bsynchronized\\b", "\\bassert\\b",
            "\\bpackage\\b", "\\bprotected\\b", "static \\{", "\\bSystem\\.(?!arraycopy)", "\\bThread\\b",
            "Exact\\b", "\\bObject\\b", "\\bequals\\b", "\\bhashCode\\b", "\\btoString\\b", "\\bMap\\b",
        };
        for (String word : ruledOut) {
            Check.due("rule: no " + word, Pattern.compile(word).matcher(code).find(), false);
        }
    }

    private static void imports(String code) {
        for (String line : code.split("\n")) {
            if (line.startsWith("import")) {
                Check.due("rule 4: " + line, line.matches("import java\\.util\\.(Arrays|ArrayList|List);"), true);
            }
        }
    }

    private static void sizes(String code) {
        int classes = Pattern.compile("\\b(class|record|enum|interface) [A-Z]").split(code).length - 1;
        Check.due("rule 11: at most twelve classes", classes <= 12, true);
        String[] lines = code.split("\n");
        for (int start = 0; start < lines.length; start++) {
            if (lines[start].matches("    +(\\w+(\\[\\])* )+\\w+\\(.*\\).*\\{")) {
                String header = lines[start].strip();
                Check.due("rule 11: at most seven parameters: " + header, header.split(",").length <= 7, true);
                Check.due("rule 11: at most sixty lines: " + header, lengthFrom(lines, start) <= 60, true);
            }
        }
    }

    /** The number of lines up to the brace that stands below the beginning of the first one. */
    private static int lengthFrom(String[] lines, int start) {
        String end = " ".repeat(lines[start].length() - lines[start].stripLeading().length()) + "}";
        int line = start;
        while (line < lines.length && !lines[line].equals(end)) {
            line++;
        }
        return line - start + 1;
    }
}
