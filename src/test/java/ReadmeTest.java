import java.io.File;
import java.lang.reflect.Method;
import java.lang.reflect.Modifier;
import java.nio.file.Files;
import java.nio.file.Path;
import java.util.List;
import java.util.regex.Matcher;
import java.util.regex.Pattern;

/** What README.md shows of the class is so: its calls compile and answer as told, and it leaves out no call and no test. */
public final class ReadmeTest {
    private static final String SHOWN = "ReadmeUse";
    private static final Pattern CALL =
        Pattern.compile("((?:int \\w+ = )?)(x\\.(\\w+)\\(.*?\\)); +// (-?\\d+|BoxGlue\\.\\w+): .+");

    private final Checks checks = new Checks();
    private final List<String> lines;

    private ReadmeTest(List<String> lines) {
        this.lines = lines;
    }

    public static void main(String[] args) throws Exception {
        new ReadmeTest(Files.readAllLines(Path.of("README.md"))).all();
    }

    private void all() throws Exception {
        checks.about("README.md");
        theCallsShownAnswerAsTold();
        theTableHasEveryCall();
        theListHasEveryTest();
        checks.end();
    }

    private void holds(String what, boolean is) {
        checks.due(what, is ? 1 : 0, 1);
    }

    private void theCallsShownAnswerAsTold() throws Exception {
        String source = sourceOf(shown());
        // Beside this class, so that it is in the same package and may use Checks.
        Path classes = Path.of(ReadmeTest.class.getProtectionDomain().getCodeSource().getLocation().toURI());
        Path file = Files.writeString(classes.resolve(SHOWN + ".java"), source);
        int code = new ProcessBuilder("javac", "-cp", classes.toString(), "-d", classes.toString(), file.toString())
            .inheritIO().start().waitFor();
        checks.due("javac", code, 0);
        if (code == 0) {
            Class.forName(SHOWN).getDeclaredMethod("use", Checks.class).invoke(null, checks);
        }
    }

    private List<String> shown() {
        int from = lines.indexOf("```java") + 1;
        int to = from + lines.subList(from, lines.size()).indexOf("```");
        holds("it shows calls", from > 0 && to > from);
        return lines.subList(from, Math.max(from, to));
    }

    private String sourceOf(List<String> calls) {
        StringBuilder source = new StringBuilder("final class " + SHOWN + " { static void use(Checks checks) {\n");
        for (String line : calls) {
            Matcher call = CALL.matcher(line);
            if (!call.matches()) {
                holds("an answer stands behind: " + line, line.equals("BoxGlue x = new BoxGlue();"));
                source.append(line).append('\n');
                continue;
            }
            String name = call.group(1).replace("int ", "").replace(" = ", "");
            String got = name.isEmpty() ? call.group(2) : name;
            source.append(name.isEmpty() ? "" : call.group(1) + call.group(2) + ";\n");
            source.append("checks.due(\"" + call.group(2) + "\", " + got + ", " + call.group(4) + ");\n");
        }
        return source.append("} }\n").toString();
    }

    private void theTableHasEveryCall() {
        int calls = 0;
        for (Method method : BoxGlue.class.getDeclaredMethods()) {
            if (Modifier.isPublic(method.getModifiers())) {
                calls++;
                holds("a row of the table is " + method, lines.stream().anyMatch(line -> isRowOf(line, method)));
            }
        }
        checks.due("rows of calls", lines.stream().filter(line -> line.startsWith("| `")).count(), calls);
    }

    private static boolean isRowOf(String line, Method method) {
        String start = "| `" + method.getName() + "(";
        if (!line.startsWith(start) || line.indexOf(")` |") < 0) {
            return false;
        }
        String parameters = line.substring(start.length(), line.indexOf(")` |"));
        int count = parameters.isEmpty() ? 0 : parameters.split(", ").length;
        return count == method.getParameterCount();
    }

    private void theListHasEveryTest() {
        File[] files = new File("src/test/java").listFiles((folder, name) -> name.endsWith("Test.java"));
        holds("there are tests", files != null && files.length > 0);
        for (File file : files == null ? new File[0] : files) {
            String start = "- `src/test/java/" + file.getName() + "`: ";
            holds("it tells of " + file.getName(), lines.stream().anyMatch(line -> line.startsWith(start)));
        }
    }
}
