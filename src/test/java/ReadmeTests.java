import java.io.IOException;
import java.lang.reflect.InvocationTargetException;
import java.lang.reflect.Method;
import java.lang.reflect.Modifier;
import java.nio.file.Files;
import java.nio.file.Path;
import java.util.List;
import java.util.StringJoiner;
import java.util.regex.Matcher;
import java.util.regex.Pattern;
import java.util.stream.Stream;
import javax.tools.ToolProvider;

/** What README.md says of the class and of its tests is so. */
public final class ReadmeTests extends Checks {
    /** A line of an example that tells an answer: int count = t.tables(); // 1: ... */
    private static final Pattern ANSWER = Pattern.compile("\\s*(?:int|boolean) (\\w+) = .*;\\s+// (-?\\d+|true|false)\\b.*");
    /** A line of an example that tells what is typed: t.type(0x78L); // x */
    private static final Pattern TYPED = Pattern.compile("t\\.type\\(0x(\\w+)L\\);\\s+// (\\S+)");

    private static int answersTold = 0;

    public static void main(String[] args) throws Exception {
        List<String> lines = Files.readAllLines(Path.of("README.md"));
        examplesAnswerAsTold(lines);
        everyCallStandsThere(lines);
        everyTestStandsThere(String.join("\n", lines));
        end();
    }

    private static void examplesAnswerAsTold(List<String> lines) throws Exception {
        Path folder = Path.of(System.getProperty("java.class.path"));
        Path source = folder.resolve("ReadmeExample.java");
        Files.writeString(source, programOf(lines));
        String[] options = {"-cp", folder.toString(), "-d", folder.toString(), source.toString()};
        due("the examples are compiled", ToolProvider.getSystemJavaCompiler().run(null, null, null, options), 0);
        dueText("the examples", answersOfExamples(), "as told ".repeat(answersTold));
        due("examples tell answers", answersTold > 0, 1);
    }

    private static String answersOfExamples() throws ReflectiveOperationException {
        try {
            return (String) Class.forName("ReadmeExample").getMethod("run").invoke(null);
        } catch (InvocationTargetException e) {
            return "throws " + e.getCause();
        }
    }

    /** The examples one behind the other; each answer is compared where it is told. */
    private static String programOf(List<String> lines) {
        StringJoiner program = new StringJoiner("\n");
        program.add("public final class ReadmeExample {").add("public static String run() {");
        program.add("String answers = \"\";");
        boolean inside = false;
        for (String line : lines) {
            if (line.startsWith("```")) {
                inside = line.equals("```java");
            } else if (inside) {
                program.add(line).add(comparison(line));
            }
        }
        return program.add("return answers;").add("}").add("}").toString();
    }

    private static String comparison(String line) {
        Matcher typed = TYPED.matcher(line);
        if (typed.matches()) {
            due(line, Long.parseUnsignedLong(typed.group(1), 16), row(typed.group(2)));
        }
        Matcher answer = ANSWER.matcher(line);
        if (!answer.matches()) {
            return "";
        }
        answersTold++;
        String name = answer.group(1);
        return "answers += " + name + " == " + answer.group(2) + " ? \"as told \" : \"" + name + " is \" + " + name + " + \" \";";
    }

    /** A row of the table begins with the call, and ends with what it throws, in the order of the face. */
    private static void everyCallStandsThere(List<String> lines) {
        for (Method method : HerbrandTables.class.getDeclaredMethods()) {
            if (!Modifier.isPublic(method.getModifiers())) {
                continue;
            }
            List<String> rows = lines.stream().filter(line -> line.startsWith("| `" + method.getName() + "(")).toList();
            due("rows of " + method.getName(), rows.size(), 1);
            StringJoiner thrown = new StringJoiner(", ");
            for (Class<?> kind : method.getExceptionTypes()) {
                thrown.add("`" + kind.getSimpleName() + "`");
            }
            for (String row : rows) {
                String told = row.split("[|]")[3].replaceFirst(":.*", "").strip();
                dueText("what " + method.getName() + " throws", told, thrown.toString());
            }
        }
    }

    private static void everyTestStandsThere(String readme) throws IOException {
        try (Stream<Path> tests = Files.list(Path.of("src/test/java"))) {
            for (Path test : tests.toList()) {
                String name = test.getFileName().toString().replace(".java", "");
                due(name + " stands in README.md", readme.contains("`" + name + "`"), 1);
            }
        }
    }
}
