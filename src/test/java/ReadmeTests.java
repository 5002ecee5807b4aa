import java.io.ByteArrayOutputStream;
import java.io.IOException;
import java.io.PrintStream;
import java.lang.reflect.Field;
import java.nio.file.Files;
import java.nio.file.Path;
import java.util.ArrayList;
import java.util.List;
import java.util.regex.Matcher;
import java.util.regex.Pattern;

/** README.md shows the example as it is, the example answers as it says, and each call and constant is told. */
public final class ReadmeTests extends Checks {
    private static final Pattern TOLD = Pattern.compile("System\\.out\\.println\\(x\\.(.*)\\); +// (-?[0-9]+): ");
    private static final Pattern CALL = Pattern.compile("\\n    public int (\\w+)\\(([^)]*)\\)");

    public static void main(String[] args) throws IOException, ReflectiveOperationException {
        Path root = Path.of(args[0]);
        String readme = Files.readString(root.resolve("README.md"));
        String example = Files.readString(root.resolve("src/example/java/Example.java"));
        due("README.md shows another example", readme.contains("\n```java\n" + example + "```\n"));
        answersOf(example);
        callsTold(readme, Files.readString(root.resolve("src/main/java/TickCircuits.java")));
        constantsTold(readme);
        testsTold(readme, root);
        finish();
    }

    private static void answersOf(String example) {
        PrintStream console = System.out;
        ByteArrayOutputStream printed = new ByteArrayOutputStream();
        System.setOut(new PrintStream(printed));
        Example.main(new String[0]);
        System.out.flush();
        System.setOut(console);
        List<String> lines = new ArrayList<>(printed.toString().lines().toList());
        Matcher told = TOLD.matcher(example);
        int place = 0;
        for (; told.find(); place++) {
            String answer = place < lines.size() ? lines.get(place) : "nothing";
            due(told.group(1) + " in the example: told " + told.group(2) + ", printed " + answer,
                answer.equals(told.group(2)));
        }
        due("the example prints " + lines.size() + " lines and tells of " + place, lines.size() == place && place > 0);
    }

    private static void callsTold(String readme, String source) {
        Matcher call = CALL.matcher(source);
        int found = 0;
        for (; call.find(); found++) {
            String line = "\n| `" + call.group(1) + "(" + call.group(2).replace("int ", "") + ")` | ";
            due("not in README.md:" + line, readme.contains(line));
        }
        due("calls found in the class", found, NAMES.length);
    }

    private static void constantsTold(String readme) throws ReflectiveOperationException {
        for (Field field : TickCircuits.class.getFields()) {
            String line = "\n| `" + field.getName() + "` | " + field.getInt(null) + " | ";
            due("not in README.md:" + line, readme.contains(line));
        }
    }

    private static void testsTold(String readme, Path root) throws IOException {
        try (var files = Files.list(root.resolve("src/test/java"))) {
            for (Path file : files.toList()) {
                due("not in README.md: " + file.getFileName(), readme.contains(file.getFileName().toString()));
            }
        }
    }
}
