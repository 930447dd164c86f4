import java.io.IOException;
import java.lang.reflect.Method;
import java.lang.reflect.Modifier;
import java.nio.file.Files;
import java.nio.file.Path;
import java.util.regex.Matcher;
import java.util.regex.Pattern;

/** README.md says how to use the class: its example is done here, and its table has every call. */
public final class ReadmeTest {
    private static final Pattern CALL = Pattern.compile("land\\.(\\w+)\\(([-\\d, ]*)\\); *// (.*)");
    private static final Pattern TEXT = Pattern.compile("for .*\"(.*)\"\\.toCharArray.*");
    private static final Pattern ANSWER = Pattern.compile("(-?\\d+): .*");
    private static final Pattern ROW = Pattern.compile("(?m)^\\| `(\\w+)\\(([\\w, ]*)\\)` \\| (u?) ?\\|");
    private static final int CALLS = 27;

    private static LoafExits land;
    private static int answers;

    public static void main(String[] args) throws IOException, ReflectiveOperationException {
        String readme = Files.readString(Path.of("README.md"));
        example(readme);
        table(readme);
        tests(readme);
        Check.end("ReadmeTest");
    }

    private static void example(String readme) throws ReflectiveOperationException {
        int begin = readme.indexOf("```java\n") + "```java\n".length();
        for (String line : readme.substring(begin, readme.indexOf("```", begin)).split("\n")) {
            follow(line);
        }
        Check.isTrue("the example tells answers", answers > 0);
        Check.is("the example's last call takes back all orders", land.roadOf(3, 5), 0);
    }

    private static void follow(String line) throws ReflectiveOperationException {
        Matcher call = CALL.matcher(line);
        Matcher text = TEXT.matcher(line);
        if (line.equals("LoafExits land = new LoafExits();")) {
            land = new LoafExits();
        } else if (call.matches()) {
            followCall(line, call);
        } else if (text.matches()) {
            for (char sign : text.group(1).toCharArray()) {
                land.append(sign);
            }
        } else {
            Check.isTrue("a line that is not followed: " + line, line.equals("    land.append(sign);") || line.equals("}"));
        }
    }

    private static void followCall(String line, Matcher call) throws ReflectiveOperationException {
        String[] told = call.group(2).isEmpty() ? new String[0] : call.group(2).split(", *");
        Object[] values = new Object[told.length];
        for (int k = 0; k < told.length; k++) {
            values[k] = Integer.valueOf(told[k]);
        }
        Object got = named(call.group(1)).invoke(land, values);
        Matcher answer = ANSWER.matcher(call.group(3));
        if (answer.matches()) {
            answers++;
            Check.isText(line, got.toString(), answer.group(1));
        }
    }

    private static Method named(String name) {
        for (Method method : LoafExits.class.getDeclaredMethods()) {
            if (method.getName().equals(name) && Modifier.isPublic(method.getModifiers())) {
                return method;
            }
        }
        throw new IllegalStateException("the class has no " + name);
    }

    /** Each call has a row with as many parameters, and is marked as undoable if the document says so. */
    private static void table(String readme) throws IOException {
        String document = Files.readString(Path.of("../shared/DOC.md"));
        int rows = 0;
        Matcher row = ROW.matcher(readme);
        while (row.find()) {
            rows++;
            String name = row.group(1);
            int parameters = row.group(2).isEmpty() ? 0 : row.group(2).split(",").length;
            Check.is("parameters of " + name, parameters, named(name).getParameterCount());
            Check.isTrue("the parameters of " + name, document.contains(" " + name + "(" + typed(row.group(2)) + ")"));
            Check.isTrue("the mark of " + name, row.group(3).equals("u") == isUndoable(document, name));
        }
        Check.is("rows", rows, CALLS);
    }

    private static String typed(String parameters) {
        return parameters.isEmpty() ? "" : "int " + parameters.replace(", ", ", int ");
    }

    private static boolean isUndoable(String document, String name) {
        int begin = document.indexOf(": " + name + "\n");
        int end = document.indexOf("\n## ", begin);
        return begin >= 0 && end >= 0 && document.substring(begin, end).contains("Undoable");
    }

    private static void tests(String readme) throws IOException {
        Check.isTrue("README.md tells of .ci/run", readme.contains("    .ci/run\n"));
        try (var files = Files.list(Path.of("src/test/java"))) {
            for (Path file : (Iterable<Path>) files.sorted()::iterator) {
                String name = file.getFileName().toString().replace(".java", "");
                boolean told = !name.endsWith("Test") || readme.contains("| " + name + " |");
                Check.isTrue("README.md tells of " + name, told);
            }
        }
    }
}
