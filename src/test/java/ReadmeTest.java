import java.io.IOException;
import java.nio.file.Files;
import java.nio.file.Path;
import java.util.LinkedHashMap;
import java.util.Map;
import java.util.regex.Matcher;
import java.util.regex.Pattern;

/** README.md's examples, one after the other, answer what the comments behind their calls say. */
public final class ReadmeTest {
    private static final Pattern EXAMPLE = Pattern.compile("(?s)```java\n(.*?)```");
    private static final Pattern ANSWERED = Pattern.compile("\\s*(int \\w+ = )?(granary\\..*); +// ([^ ,]+).*");

    public static void main(String[] args) throws IOException, InterruptedException, ReflectiveOperationException {
        StringBuilder program = new StringBuilder("public class Examples {\n");
        program.append("public static void run(java.util.Map<String, long[]> answers) {\n");
        Matcher example = EXAMPLE.matcher(Files.readString(Path.of("README.md")));
        while (example.find()) {
            example.group(1).lines().forEach(line -> program.append(noted(line)).append('\n'));
        }
        Map<String, long[]> answers = new LinkedHashMap<>();
        try (Compiled compiled = new Compiled("Examples", program.append("}}\n").toString(),
                ReadmeTest.class.getClassLoader())) {
            compiled.type.getMethod("run", Map.class).invoke(null, answers);
        }
        answers.forEach((call, pair) -> Check.same("README: " + call, pair[0], pair[1]));
        Check.same("README: calls with answers", answers.size(), 12);
        Check.end();
    }

    // "granary.month();  // 2" becomes "answers.put("granary.month()", new long[] {granary.month(), 2});".
    private static String noted(String line) {
        Matcher answered = ANSWERED.matcher(line);
        if (!answered.matches()) {
            return line;
        }
        String call = answered.group(2);
        String due = answered.group(3);
        if (answered.group(1) == null) {
            return put(call, call, due);
        }
        return answered.group(1) + call + ";" + put(call, answered.group(1).split(" ")[1], due);
    }

    private static String put(String call, String answer, String due) {
        return "answers.put(\"" + call.replace("\"", "'") + "\", new long[] {" + answer + ", " + due + "});";
    }
}
