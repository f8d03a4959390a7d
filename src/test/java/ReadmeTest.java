import java.io.IOException;
import java.lang.reflect.Method;
import java.lang.reflect.Modifier;
import java.nio.file.Files;
import java.nio.file.Path;
import java.util.List;
import java.util.regex.Matcher;
import java.util.regex.Pattern;

/** What README.md says is so: the example's calls answer what stands beside them, and each method is told. */
public final class ReadmeTest {
    private static final String BLOCK_START = "```java";
    private static final String BLOCK_END = "```";
    private static final String NEW_OBJECT = "ClauseYard yard = new ClauseYard();";
    private static final Pattern CALL = Pattern.compile("yard\\.(\\w+)\\((-?\\d+)?\\); +// (-?\\d+|true|false)(: .+)?");

    public static void main(String[] args) throws IOException {
        List<String> lines = Files.readAllLines(Path.of("README.md"));
        followExample(lines);
        seekMethods(lines);
        Run.end();
    }

    private static void followExample(List<String> lines) {
        Run run = new Run("README.md, example");
        int start = lines.indexOf(BLOCK_START) + 1;
        int end = start + lines.subList(start, lines.size()).indexOf(BLOCK_END);
        if (start == 0 || end - start < 2 || !lines.get(start).equals(NEW_OBJECT)) {
            run.complain("there is no example that makes an object and calls it");
            return;
        }
        for (String line : lines.subList(start + 1, end)) {
            Matcher call = CALL.matcher(line);
            if (call.matches()) {
                String argument = call.group(2) == null ? "" : " " + call.group(2);
                run.due(call.group(1) + argument, call.group(3));
            } else {
                run.complain("no call with its answer: " + line);
            }
        }
        if (lines.lastIndexOf(BLOCK_START) != start - 1) {
            run.complain("there is a second example, which nothing holds to its word");
        }
    }

    private static void seekMethods(List<String> lines) {
        Run run = new Run("README.md, methods");
        for (Method method : ClauseYard.class.getDeclaredMethods()) {
            if (Modifier.isPublic(method.getModifiers())) {
                seekRow(run, lines, method);
            }
        }
    }

    /** A method's row begins with its face and names each exception that it throws, in the face's order. */
    private static void seekRow(Run run, List<String> lines, Method method) {
        String parameter = method.getParameterCount() == 0 ? "\\)" : "int \\w+\\)";
        StringBuilder row = new StringBuilder();
        row.append("\\| `").append(method.getReturnType()).append(' ').append(method.getName()).append("\\(")
            .append(parameter).append("` \\| [^|]+ \\|");
        for (Class<?> thrown : method.getExceptionTypes()) {
            row.append(" `").append(thrown.getSimpleName()).append("` [^|`]+");
        }
        row.append(" ?\\|");
        if (lines.stream().noneMatch(line -> line.matches(row.toString()))) {
            run.complain(method.getName() + " is not told");
        }
    }
}
