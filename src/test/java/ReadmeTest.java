import java.io.File;
import java.io.IOException;
import java.lang.reflect.Method;
import java.lang.reflect.Modifier;
import java.nio.file.Files;
import java.nio.file.Path;
import java.util.ArrayList;
import java.util.Comparator;
import java.util.List;
import java.util.Set;
import java.util.TreeSet;
import java.util.regex.Matcher;
import java.util.regex.Pattern;
import java.util.stream.Stream;

/** What README.md shows is compiled and run: each call answers what its comment begins with, each block prints its text. */
final class ReadmeTest {
    private static final Path README = Path.of("README.md");
    private static final Path TESTS = Path.of("src/test/java");
    private static final Pattern CALL =
        Pattern.compile("((?:int|long|boolean) (\\w+) = )?(group\\.(\\w+)\\(.*\\));\\s*(?://\\s*(.*))?");
    private static final Pattern ANSWER = Pattern.compile("(-?\\d+|true|false|\\w+Exception)(?=:|$).*");

    /** A fenced part of the page. */
    private static final class Block {
        final String language;
        final int firstLine;
        final List<String> lines = new ArrayList<>();

        Block(String language, int firstLine) {
            this.language = language;
            this.firstLine = firstLine;
        }
    }

    private final Path out;
    private int compared;

    private ReadmeTest(Path out) {
        this.out = out;
    }

    public static void main(String[] args) throws IOException, InterruptedException {
        List<String> page = Files.readAllLines(README);
        names(String.join("\n", page));
        Path out = Files.createTempDirectory("readme");
        try {
            new ReadmeTest(out).blocks(blocksOf(page));
        } finally {
            delete(out);
        }
        Check.end();
    }

    /** Every test is named, nothing is named that is no test, and every call of the face is shown. */
    private static void names(String page) throws IOException {
        Set<String> named = new TreeSet<>();
        Matcher matcher = Pattern.compile("`(\\w+Test)`").matcher(page);
        while (matcher.find()) {
            named.add(matcher.group(1));
        }
        Set<String> there = new TreeSet<>();
        try (Stream<Path> files = Files.list(TESTS)) {
            files.map(file -> file.getFileName().toString()).filter(name -> name.endsWith("Test.java"))
                .forEach(name -> there.add(name.replace(".java", "")));
        }
        Check.same("tests that README.md names", named.toString(), there.toString());
        for (Method method : LoopGroup.class.getDeclaredMethods()) {
            if (Modifier.isPublic(method.getModifiers())) {
                boolean isShown = page.contains("group." + method.getName() + "(");
                Check.same("README.md shows " + method.getName(), isShown, true);
            }
        }
    }

    private static List<Block> blocksOf(List<String> page) {
        List<Block> blocks = new ArrayList<>();
        Block open = null;
        for (int k = 0; k < page.size(); k++) {
            String line = page.get(k);
            if (!line.startsWith("```")) {
                if (open != null) {
                    open.lines.add(line);
                }
            } else if (open == null) {
                open = new Block(line.substring(3), k + 2);
                blocks.add(open);
            } else {
                open = null;
            }
        }
        Check.same("README.md leaves a block open", open != null, false);
        return blocks;
    }

    private void blocks(List<Block> blocks) throws IOException, InterruptedException {
        int uses = 0;
        for (int k = 0; k < blocks.size(); k++) {
            Block block = blocks.get(k);
            Block next = k + 1 < blocks.size() ? blocks.get(k + 1) : null;
            if (block.language.equals("java")) {
                boolean prints = next != null && next.language.equals("text");
                use(block, prints ? String.join("\n", next.lines) : "");
                uses++;
            } else if (block.language.equals("sh")) {
                run("README.md line " + block.firstLine, "", "sh", "-e", "-c",
                    String.join("\n", block.lines).replaceAll("\\bout\\b", out.resolve("out").toString()));
            } else {
                boolean isPrinted = k > 0 && blocks.get(k - 1).language.equals("java");
                Check.same("line " + block.firstLine + " is what a use prints", isPrinted, true);
            }
        }
        Check.same("uses are shown", uses > 0, true);
        Check.same("answers are told: " + compared, compared > 0, true);
    }

    private void use(Block block, String printed) throws IOException, InterruptedException {
        String name = "Use" + block.firstLine;
        StringBuilder text = new StringBuilder("final class " + name + " {\npublic static void main(String[] args) {\n");
        for (int k = 0; k < block.lines.size(); k++) {
            text.append(checked(block.firstLine + k, block.lines.get(k))).append('\n');
        }
        Path file = out.resolve(name + ".java");
        Files.writeString(file, text.append("Check.end();\n}\n}\n"));
        String path = System.getProperty("java.class.path");
        String place = "README.md line " + block.firstLine;
        if (run(place + " compiled", "", "javac", "-cp", path, "-d", out.toString(), file.toString())) {
            run(place + " run", printed, "java", "-cp", path + File.pathSeparator + out, name);
        }
    }

    /** A line of a use, with a look at its answer. */
    private String checked(int number, String line) {
        Matcher matcher = CALL.matcher(line);
        if (!matcher.matches()) {
            return line;
        }
        String what = "\"README.md line " + number + "\", ";
        String call = matcher.group(3);
        Matcher told = ANSWER.matcher(matcher.group(5) == null ? "" : matcher.group(5));
        String answer = told.matches() ? told.group(1) : "";
        Check.same("README.md line " + number + " tells an answer", !answer.isEmpty(), !isVoid(matcher.group(4))
            || answer.endsWith("Exception"));
        if (answer.isEmpty()) {
            return line;
        }
        compared++;
        if (answer.endsWith("Exception")) {
            return "Check.thrown(" + what + "() -> " + call + ", " + answer + ".class);";
        }
        if (matcher.group(1) == null) {
            return "Check.same(" + what + "String.valueOf(" + call + "), \"" + answer + "\");";
        }
        return matcher.group(1) + call + "; Check.same(" + what + "String.valueOf(" + matcher.group(2) + "), \"" + answer + "\");";
    }

    private static boolean isVoid(String name) {
        for (Method method : LoopGroup.class.getDeclaredMethods()) {
            if (method.getName().equals(name)) {
                return method.getReturnType() == void.class;
            }
        }
        return false;
    }

    /** Runs a command: whether it ended with 0 and printed what is due. */
    private boolean run(String what, String due, String... command) throws IOException, InterruptedException {
        Path printed = out.resolve("printed");
        Process process = new ProcessBuilder(command).redirectError(ProcessBuilder.Redirect.INHERIT)
            .redirectOutput(printed.toFile()).start();
        int code = process.waitFor();
        String text = Files.readString(printed).strip();
        Check.same(what + " ends with", code, 0);
        Check.same(what + " prints", text, due);
        return code == 0 && text.equals(due);
    }

    private static void delete(Path directory) throws IOException {
        try (Stream<Path> files = Files.walk(directory)) {
            for (Path file : files.sorted(Comparator.reverseOrder()).toList()) {
                Files.delete(file);
            }
        }
    }
}
