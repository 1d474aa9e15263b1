import java.io.IOException;
import java.nio.file.Files;
import java.nio.file.Path;
import java.util.List;
import java.util.regex.Matcher;
import java.util.regex.Pattern;

/** LANGUAGE.md as far as the text shows it: words it rules out, where objects are made, how long methods are. */
final class LanguageTest {
    private static final Path SOURCE = Path.of("src/main/java/LoopGroup.java");
    private static final String[] RULED_OUT = {
        "->", "::", "\\bpackage\\b", "\\bimport\\b", "\\btry\\b", "\\bcatch\\b", "\\bfinally\\b", "\\bassert\\b",
        "\\bsynchronized\\b", "\\bprotected\\b", "\\bThread\\b", "\\bRandom\\b", "\\bdouble\\b", "\\bfloat\\b",
        "\\bgetMessage\\b", "Exact\\(", "\\bvar\\b", "\\bstatic \\{", "System\\.(?!arraycopy)", "Math\\.(?!abs|min)",
        "\\b(Integer|Long|Arrays|String|StringBuilder|List|ArrayList|Object)\\b", "\\bwhile\\b", "\\bdo\\b"};
    /** Rule 9: a counter against a bound. */
    private static final Pattern LOOP = Pattern.compile("for \\(int (\\w+) = \\w+; \\1 < [^;]+; \\1\\+\\+\\) \\{");
    /** Rule 6, as far as the document's face asks for it. */
    private static final Pattern THROW =
        Pattern.compile("throw new (IllegalStateException|IllegalArgumentException|IndexOutOfBoundsException)\\(\"\"\\);");
    private static final Pattern METHOD =
        Pattern.compile("^( {4}| {8})(?! |(?:return|throw|else|new)\\b)[\\w\\[\\] ]*\\b\\w+\\(([^()]*)\\).*\\{$");

    public static void main(String[] args) throws IOException {
        List<String> lines = Files.readAllLines(SOURCE);
        for (int k = 0; k < lines.size(); k++) {
            line(k + 1, withoutComment(lines.get(k)));
        }
        methods(lines);
        Check.end();
    }

    private static String withoutComment(String line) {
        String text = line.trim();
        boolean isComment = text.startsWith("/") || text.startsWith("*");
        return isComment ? "" : line.replaceAll("\"[^\"]*\"", "\"\"");
    }

    private static void line(int number, String line) {
        for (String word : RULED_OUT) {
            Check.same("line " + number + " has " + word, Pattern.compile(word).matcher(line).find(), false);
        }
        for (int k = 0; k < line.length(); k++) {
            Check.same("line " + number + " is plain text", line.charAt(k) < 127, true);
        }
        boolean isVariable = line.matches(".*\\bstatic (?!final\\b).*");
        Check.same("line " + number + " has a static that is not final", isVariable, false);
        Check.same("line " + number + " loops without a bound", line.contains("for (") && !LOOP.matcher(line).find(), false);
        Check.same("line " + number + " throws", line.contains("throw ") && !THROW.matcher(line).find(), false);
        boolean makes = Pattern.compile("\\bnew ").matcher(line).find();
        boolean once = line.contains("throw new ") || line.matches(" {8}final .*")
            || line.matches(" {8}(runner|scheduler) = new .*") || line.matches(" {12}(scheduler|loops) = new .*")
            || line.matches(" {16}loops\\[k\\] = new Loop\\(\\);");
        Check.same("line " + number + " makes an object outside a constructor", makes && !once, false);
    }

    private static void methods(List<String> lines) {
        int found = 0;
        for (int k = 0; k < lines.size(); k++) {
            Matcher matcher = METHOD.matcher(lines.get(k));
            if (!matcher.matches()) {
                continue;
            }
            found++;
            int end = k;
            while (!lines.get(end).equals(matcher.group(1) + "}")) {
                end++;
            }
            Check.same("line " + (k + 1) + ": some sixty lines at most", end - k < 60, true);
            Check.same("line " + (k + 1) + ": seven parameters at most", matcher.group(2).split(",").length <= 7, true);
        }
        Check.same("methods were found", found > 60, true);
    }
}
