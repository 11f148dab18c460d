import java.io.IOException;
import java.nio.file.Files;
import java.nio.file.Path;
import java.util.ArrayList;
import java.util.List;
import java.util.regex.Matcher;
import java.util.regex.Pattern;

/**
 * Prints a test, the class ReadmeUse, made of the Java that README.md shows. Each block stands in it twice: as it is shown,
 * so that it is seen to compile, and with every answer that it tells looked at.
 */
public final class ReadmeCode {
    private static final Pattern NEW_OBJECT = Pattern.compile("ReleaseSolver \\w+ = new ReleaseSolver\\(\\);");
    private static final Pattern TOLD = Pattern.compile(
            "(\\S.*);\\s*// (-?\\d+|true|false|REFUSED|FULL|BAD|NONE|TWICE)(:.*)?");

    /** A piece of Java that the text shows, and the number of its first line there. */
    record Block(int firstLine, List<String> lines) {
        /** A method that the other blocks call; it tells no answers. */
        boolean isMethod() {
            return !lines.isEmpty() && lines.get(0).startsWith("static ");
        }
    }

    private ReadmeCode() { }

    public static void main(String[] args) throws IOException {
        try {
            System.out.print(testOf(Files.readAllLines(Path.of("README.md"))));
        } catch (IllegalArgumentException wrong) {
            System.err.println(wrong.getMessage());
            System.exit(1);
        }
    }

    static List<Block> blocks(List<String> readme) {
        List<Block> blocks = new ArrayList<>();
        Block open = null;
        for (int at = 0; at < readme.size(); at++) {
            String line = readme.get(at);
            if (open == null && line.equals("```java")) {
                open = new Block(at + 2, new ArrayList<>());
            } else if (open != null && line.equals("```")) {
                blocks.add(open);
                open = null;
            } else if (open != null) {
                open.lines().add(line);
            } else if (line.contains("```")) {
                throw new IllegalArgumentException("README.md, line " + (at + 1) + " opens no block of Java: " + line);
            }
        }
        if (open != null) {
            throw new IllegalArgumentException("README.md, line " + open.firstLine() + ": the block has no end");
        }
        return blocks;
    }

    /** The source of the test; an IllegalArgumentException if a line tells no answer. */
    static String testOf(List<String> readme) {
        StringBuilder methods = new StringBuilder();
        StringBuilder calls = new StringBuilder();
        for (Block block : blocks(readme)) {
            if (block.isMethod()) {
                methods.append(asShown(block));
                continue;
            }
            methods.append(method("shown" + block.firstLine(), asShown(block)));
            methods.append(method("looked" + block.firstLine(), lookedAt(block)));
            calls.append("looked").append(block.firstLine()).append("();\n");
        }
        return "public final class ReadmeUse {\nprivate static final Checks CHECKS = new Checks();\n" + methods
                + "public static void main(String[] args) {\n" + calls + "CHECKS.end();\n}\n}\n";
    }

    private static String method(String name, String body) {
        return "static void " + name + "() {\n" + body + "}\n";
    }

    private static String asShown(Block block) {
        return String.join("\n", block.lines()) + "\n";
    }

    private static String lookedAt(Block block) {
        StringBuilder rows = new StringBuilder();
        for (int i = 0; i < block.lines().size(); i++) {
            rows.append(lookedAt(block.firstLine() + i, block.lines().get(i))).append('\n');
        }
        return rows.toString();
    }

    private static String lookedAt(int number, String line) {
        if (line.isBlank() || NEW_OBJECT.matcher(line).matches()) {
            return line;
        }
        String place = "README.md, line " + number;
        Matcher told = TOLD.matcher(line);
        if (!told.matches()) {
            throw new IllegalArgumentException(place + " tells no answer: " + line);
        }
        String answer = told.group(2);
        String want = Character.isUpperCase(answer.charAt(0)) ? "ReleaseSolver." + answer : answer;
        return "CHECKS.due(" + quoted(place + ": " + told.group(1)) + ", " + told.group(1) + ", " + want + ");";
    }

    private static String quoted(String text) {
        return "\"" + text.replace("\\", "\\\\").replace("\"", "\\\"") + "\"";
    }
}
