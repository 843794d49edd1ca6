import java.io.IOException;
import java.lang.reflect.Method;
import java.lang.reflect.Modifier;
import java.nio.charset.StandardCharsets;
import java.nio.file.Files;
import java.nio.file.Path;
import java.util.ArrayList;
import java.util.List;

/** README.md says how to use the class: its example answers what it says, and it names every call. */
final class ReadmeTest {
    private static final Checks CHECKS = new Checks();

    public static void main(String[] args) throws IOException {
        List<String> lines = Files.readAllLines(Path.of("README.md"), StandardCharsets.UTF_8);
        answersOfTheExample(examplesOf(lines));
        everyCallIsNamed(String.join("\n", lines));
        everyTestIsNamed(String.join("\n", lines));
        CHECKS.end();
    }

    private static List<String> examplesOf(List<String> lines) {
        List<String> examples = new ArrayList<>();
        for (String line : lines) {
            if (line.startsWith("memory.")) {
                examples.add(line);
            }
        }
        return examples;
    }

    private static void answersOfTheExample(List<String> lines) {
        Scrubward memory = new Scrubward();
        int at = 0;
        due(lines, at++, "memory.write(0, 5);", memory.write(0, 5));
        due(lines, at++, "memory.ray(0, 1);", memory.ray(0, 1));
        due(lines, at++, "memory.read(0);", memory.read(0));
        due(lines, at++, "memory.tell(0, 0);", memory.tell(0, 0));
        due(lines, at++, "memory.run(16, 20, 1, false, false);", memory.run(16, 20, 1, false, false));
        due(lines, at++, "memory.pass(1);", memory.pass(1));
        due(lines, at++, "memory.tell(0, 0);", memory.tell(0, 0));
        due(lines, at++, "memory.board(10);", memory.board(10));
        due(lines, at++, "memory.ray(0, 3);", memory.ray(0, 3));
        due(lines, at++, "memory.read(0);", memory.read(0));
        due(lines, at++, "memory.tell(0, 0);", memory.tell(0, 0));
        due(lines, at++, "memory.retire(0, true);", memory.retire(0, true));
        due(lines, at++, "memory.read(0);", IllegalStateException.class.getSimpleName());
        CHECKS.dueState(memory, "a retired word is read", () -> memory.read(0));
        CHECKS.due("lines of the example", lines.size(), at);
    }

    private static void due(List<String> lines, int at, String call, Object answer) {
        String line = at < lines.size() ? lines.get(at) : "";
        int comment = line.indexOf("//");
        CHECKS.dueText("call " + at, comment < 0 ? line : line.substring(0, comment).trim(), call);
        String told = comment < 0 ? "" : line.substring(comment + 2).trim();
        int colon = told.indexOf(':');
        CHECKS.dueText("answer " + at, colon < 0 ? told : told.substring(0, colon), String.valueOf(answer));
    }

    private static void everyCallIsNamed(String page) {
        int calls = 0;
        for (Method method : Scrubward.class.getDeclaredMethods()) {
            if (Modifier.isPublic(method.getModifiers())) {
                CHECKS.dueTrue("README names " + method.getName(), page.contains("`" + method.getName() + "`"));
                calls++;
            }
        }
        CHECKS.due("calls of the face", calls, 29);
    }

    private static void everyTestIsNamed(String page) throws IOException {
        try (var files = Files.newDirectoryStream(Path.of("src/test/java"), "*Test.java")) {
            for (Path file : files) {
                String test = file.getFileName().toString().replace(".java", "");
                CHECKS.dueTrue("README names " + test, page.contains("`" + test + "`"));
            }
        }
    }
}
