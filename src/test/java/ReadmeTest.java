import java.io.IOException;
import java.lang.reflect.Field;
import java.lang.reflect.Method;
import java.lang.reflect.Modifier;
import java.nio.file.DirectoryStream;
import java.nio.file.Files;
import java.nio.file.Path;
import java.util.ArrayList;
import java.util.List;

/** README.md leaves out no call, no constant and no test, and what is made of its code looks at every answer told. */
public final class ReadmeTest {
    private static final Checks CHECKS = new Checks();

    public static void main(String[] args) throws IOException, IllegalAccessException {
        List<String> readme = Files.readAllLines(Path.of("README.md"));
        everyCallIsShown(readme);
        everyConstantIsTold(readme);
        everyTestIsNamed(readme);
        toldAnswersAreLookedAt();
        linesWithoutAnAnswerAreWrong();
        CHECKS.end();
    }

    private static void everyCallIsShown(List<String> readme) {
        StringBuilder code = new StringBuilder();
        for (ReadmeCode.Block block : ReadmeCode.blocks(readme)) {
            // The method that writes a whole text is not an example of its own.
            if (!block.isMethod()) {
                code.append(String.join("\n", block.lines())).append('\n');
            }
        }
        for (Method method : ReleaseSolver.class.getDeclaredMethods()) {
            if (Modifier.isPublic(method.getModifiers())) {
                String call = "." + method.getName() + "(";
                CHECKS.due("README.md shows a call of " + method.getName(), code.indexOf(call) >= 0, true);
            }
        }
    }

    private static void everyConstantIsTold(List<String> readme) throws IllegalAccessException {
        for (Field field : ReleaseSolver.class.getDeclaredFields()) {
            if (Modifier.isPublic(field.getModifiers())) {
                String row = "| `" + field.getName() + "` | " + field.getInt(null) + " |";
                boolean told = readme.stream().anyMatch(line -> line.startsWith(row));
                CHECKS.due("README.md has a row " + row, told, true);
            }
        }
    }

    private static void everyTestIsNamed(List<String> readme) throws IOException {
        try (DirectoryStream<Path> files = Files.newDirectoryStream(Path.of("src/test/java"), "*.java")) {
            for (Path file : files) {
                String name = "`" + file.getFileName().toString().replace(".java", "") + "`";
                CHECKS.due("README.md names " + name, String.join("\n", readme).contains(name), true);
            }
        }
    }

    private static void toldAnswersAreLookedAt() {
        String made = made("ReleaseSolver solver = new ReleaseSolver();", "solver.wipe();   // 0: \"nothing\"",
                "put(solver, \"1\").ask(9);// REFUSED", "", "solver.blamed(0);  // false");
        has(made, "\nReleaseSolver solver = new ReleaseSolver();\n");
        has(made, "CHECKS.due(\"README.md, line 3: solver.wipe()\", solver.wipe(), 0);");
        has(made, "CHECKS.due(\"README.md, line 4: put(solver, \\\"1\\\").ask(9)\", put(solver, \"1\").ask(9), "
                + "ReleaseSolver.REFUSED);");
        has(made, "CHECKS.due(\"README.md, line 6: solver.blamed(0)\", solver.blamed(0), false);");
        has(made, "\nsolver.wipe();   // 0: \"nothing\"\n");
        String helper = made("static int one() {", "    return 1;", "}");
        has(helper, "CHECKS = new Checks();\nstatic int one() {\n    return 1;\n}\n");
    }

    private static void linesWithoutAnAnswerAreWrong() {
        String[] lines = {"solver.wipe();", "solver.wipe();  // the text is empty", "solver.wipe();  // 0 or 1",
            "// solver.wipe();", "int length = 0;", "solver.wipe();  // NOTHING", "solver.wipe()  // 0"};
        for (String line : lines) {
            CHECKS.due("a line that is wrong: " + line, made(line).startsWith("README.md, line 2 tells no answer"), true);
        }
        CHECKS.due("a block without an end", madeOf(List.of("```java", "")).endsWith("has no end"), true);
        CHECKS.due("a block that is no Java", madeOf(List.of("", "```sh", "```")).startsWith("README.md, line 2"), true);
    }

    private static void has(String made, String part) {
        CHECKS.due("what is made of a block has " + part, made.contains(part), true);
    }

    private static String made(String... lines) {
        List<String> readme = new ArrayList<>(List.of(lines));
        readme.add(0, "```java");
        readme.add("```");
        return madeOf(readme);
    }

    /** The test that is made of the text, or what is said to be wrong with it. */
    private static String madeOf(List<String> readme) {
        try {
            return ReadmeCode.testOf(readme);
        } catch (IllegalArgumentException wrong) {
            return wrong.getMessage();
        }
    }
}
