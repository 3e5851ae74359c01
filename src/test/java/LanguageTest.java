import java.io.IOException;
import java.nio.file.Files;
import java.nio.file.Path;
import java.util.HashMap;
import java.util.List;
import java.util.Map;
import java.util.regex.Matcher;
import java.util.regex.Pattern;

/** The rules of LANGUAGE.md that can be seen from the text of the class alone. */
public final class LanguageTest {
    private static final Checks CHECKS = new Checks();
    private static final Pattern METHOD =
        Pattern.compile("^ +(public|private) ((?:static )?)((?:[\\w\\[\\]<>]+ )?)(\\w+)\\(([^)]*)\\) \\{$");

    public static void main(String[] args) throws IOException {
        String text = Files.readString(Path.of("src/main/java/MovesUp.java"));
        String code = text.replaceAll("(?s)/\\*.*?\\*/", " ").replaceAll("//[^\n]*", " ")
            .replaceAll("\"[^\"\n]*\"", "S").replaceAll("'[^'\n]+'", "C");
        none(code, "rule 6", "\\b(throw|throws|try|catch|finally|synchronized|assert)\\b");
        none(code, "rule 2", "->|::|\\bnew \\w+\\([^)]*\\) *\\{");
        none(code, "rule 4", "\\bimport (?!java\\.util\\.Arrays;)");
        none(code, "rule 4", "Exact\\b|\\b(System)\\.(?!arraycopy)|MAX_VALUE|MIN_VALUE|Object\\b|var\\b");
        none(code, "rule 13", "\\b(Random|Thread|Runtime|Date|Instant|Locale)\\b");
        none(code, "rule 1", "\\bpackage\\b|\\bprotected\\b");
        none(code, "rule 5", "\\bstatic (?!final )(?!class)(?![\\w\\[\\]]+ \\w+\\()");
        none(text, "rule 3", "[^\\x00-\\x7f]");
        methods(code);
        fields(code);
        CHECKS.end("LanguageTest");
    }

    private static void none(String code, String rule, String pattern) {
        Matcher found = Pattern.compile(pattern).matcher(code);
        boolean is = found.find();
        CHECKS.due(rule + (is ? ": " + found.group() : ""), is ? 1 : 0, 0);
    }

    private static void methods(String code) {
        List<String> lines = code.lines().toList();
        Map<String, String> faces = new HashMap<>();
        int publics = 0;
        for (int round = 0; round < 2; round++) {
            for (int i = 0; i < lines.size(); i++) {
                Matcher m = METHOD.matcher(lines.get(i));
                if (!m.matches()) {
                    continue;
                }
                String name = m.group(4);
                if (round == 0 && m.group(1).equals("public")) {
                    publics++;
                    faces.put(name, "");
                }
                if (round == 1) {
                    CHECKS.due("rule 1: a private " + name, m.group(1).equals("private") && faces.containsKey(name) ? 1 : 0, 0);
                    CHECKS.due("rule 11: parameters of " + name, m.group(5).split(",").length > 7 ? 1 : 0, 0);
                    CHECKS.due("rule 11: lines of " + name, length(lines, i) > 60 ? 1 : 0, 0);
                }
            }
        }
        CHECKS.due("the face's constructor and methods", publics, 26);
    }

    private static int length(List<String> lines, int start) {
        String indent = lines.get(start).replaceAll("\\S.*", "");
        int end = start;
        while (!lines.get(end).equals(indent + "}")) {
            end++;
        }
        return end - start + 1;
    }

    private static void fields(String code) {
        int own = 0;
        int classes = 0;
        for (String line : code.lines().toList()) {
            if (line.contains(" class ")) {
                classes++;
                own = 0;
            }
            if (line.matches(" +private (?!static).*;")) {
                own++;
                CHECKS.due("rule 11: fields", own > 20 ? 1 : 0, 0);
            }
        }
        CHECKS.due("rule 11: classes", classes > 12 ? 1 : 0, 0);
    }
}
