import java.io.File;
import java.nio.file.Files;
import java.nio.file.Path;
import java.util.ArrayList;
import java.util.List;

/** README.md, tried: its program prints what stands behind its lines, and it names each call and test. */
public final class ReadmeTest {
    private static final Path PROGRAM = Path.of("src/main/java/Doubleline.java");
    private static final String TESTS = "src/test/java";
    private static final String INDENT = "    ";

    public static void main(String[] args) throws Exception {
        List<String> readme = Files.readAllLines(Path.of("README.md"));
        List<String> example = example(readme);
        Path root = Files.createTempDirectory("readme");
        try {
            Files.createDirectories(root.resolve(PROGRAM).getParent());
            Files.copy(PROGRAM, root.resolve(PROGRAM));
            Files.write(root.resolve("Yours.java"), example);
            same("javac prints", tried(readme, "javac ", root), List.of());
            same("the program of README.md prints", tried(readme, "java ", root), answers(example));
        } finally {
            delete(root.toFile());
        }
        namesEachCall(readme);
        namesEachTest(readme);
        Check.finish();
    }

    private static List<String> example(List<String> readme) {
        int from = readme.indexOf(INDENT + "public final class Yours {");
        int to = readme.indexOf(INDENT + "}");
        List<String> lines = new ArrayList<>();
        for (String line : readme.subList(from, to + 1)) {
            lines.add(line.substring(Math.min(line.length(), INDENT.length())));
        }
        return lines;
    }

    private static List<String> answers(List<String> example) {
        List<String> answers = new ArrayList<>();
        for (String line : example) {
            if (line.contains("System.out.println(")) {
                answers.add(line.substring(line.indexOf("// ") + 3));
            }
        }
        Check.due("the program of README.md prints something", answers.isEmpty(), false);
        return answers;
    }

    /** What the one line of README.md that begins so prints when it is tried in a directory. */
    private static List<String> tried(List<String> readme, String start, Path root) throws Exception {
        List<String> found = new ArrayList<>();
        for (String line : readme) {
            if (line.startsWith(INDENT + start)) {
                found.add(line.trim());
            }
        }
        Check.due("lines of README.md that begin with " + start, found.size(), 1);
        Process process = new ProcessBuilder(found.get(0).split(" "))
                .directory(root.toFile()).redirectErrorStream(true).start();
        String text = new String(process.getInputStream().readAllBytes());
        Check.due(found.get(0) + ", exit code", process.waitFor(), 0);
        return text.lines().toList();
    }

    private static void same(String what, List<String> got, List<String> want) {
        if (!got.equals(want)) {
            Check.report(what + " " + got + ", due is " + want);
        }
    }

    private static void namesEachCall(List<String> readme) {
        String calls = String.join(" ", readme.subList(readme.indexOf("The calls:"), readme.indexOf("## Tests")));
        for (java.lang.reflect.Method method : Doubleline.class.getMethods()) {
            if (method.getDeclaringClass() == Doubleline.class) {
                Check.due("README.md names the call " + method.getName(),
                        calls.contains("`" + method.getName() + "`"), true);
            }
        }
    }

    private static void namesEachTest(List<String> readme) {
        String text = String.join(" ", readme);
        for (String file : new File(TESTS).list()) {
            String name = file.replace(".java", "");
            Check.due("README.md names " + name, text.contains("`" + name + "`"), true);
        }
        for (String word : text.split("`")) {
            if (word.matches("[A-Z][A-Za-z]*Test")) {
                Check.due("there is " + word, new File(TESTS, word + ".java").isFile(), true);
            }
        }
    }

    private static void delete(File file) {
        File[] inside = file.listFiles();
        if (inside != null) {
            for (File each : inside) {
                delete(each);
            }
        }
        file.delete();
    }
}
