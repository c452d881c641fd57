import java.io.IOException;
import java.lang.reflect.Field;
import java.lang.reflect.Method;
import java.lang.reflect.Modifier;
import java.nio.charset.StandardCharsets;
import java.nio.file.Files;
import java.nio.file.Path;
import java.util.Collections;
import java.util.List;
import java.util.regex.Matcher;
import java.util.regex.Pattern;
import java.util.stream.Collectors;
import java.util.stream.Stream;

/** README.md: its example answers what it says there, and nothing of the class or its tests is left out. */
final class ReadmeTests {
    private static final Pattern READ = Pattern.compile("read\\(town, \"([^\"]*)\"\\); +// (-?\\d+): .*");
    private static final Pattern CALL = Pattern.compile("town\\.(\\w+)\\(([^)]*)\\); +// (-?\\d+): .*");
    private static final String MADE = "WalkingStreets town = new WalkingStreets();";

    public static void main(String[] args) throws IOException, ReflectiveOperationException {
        Checks checks = new Checks();
        String page = Files.readString(Path.of("README.md"), StandardCharsets.UTF_8);
        example(checks, page);
        calls(checks, page);
        constants(checks, page);
        tests(checks, page);
        checks.end();
    }

    private static void example(Checks checks, String page) throws ReflectiveOperationException {
        int begin = page.indexOf(MADE);
        int end = page.indexOf("```", Math.max(begin, 0));
        checks.holds("an example", begin >= 0 && end > begin);
        WalkingStreets town = new WalkingStreets();
        for (String line : page.substring(begin + MADE.length(), end).trim().split("\n")) {
            Matcher read = READ.matcher(line);
            Matcher call = CALL.matcher(line);
            if (read.matches()) {
                Checks.type(town, read.group(1));
                checks.due(line, town.town(), Long.parseLong(read.group(2)));
            } else if (call.matches()) {
                checks.due(line, answer(town, call.group(1), call.group(2)), Long.parseLong(call.group(3)));
            } else {
                checks.holds("a line of the example: " + line, false);
            }
        }
    }

    private static long answer(WalkingStreets town, String name, String numbers) throws ReflectiveOperationException {
        String[] told = numbers.isEmpty() ? new String[0] : numbers.split(", ");
        Class<?>[] types = new Class<?>[told.length];
        Object[] values = new Object[told.length];
        for (int i = 0; i < told.length; i++) {
            types[i] = int.class;
            values[i] = Integer.valueOf(told[i]);
        }
        return ((Number) WalkingStreets.class.getMethod(name, types).invoke(town, values)).longValue();
    }

    private static void calls(Checks checks, String page) {
        for (Method method : WalkingStreets.class.getDeclaredMethods()) {
            if (Modifier.isPublic(method.getModifiers())) {
                // With as many names between the brackets as it takes numbers.
                String names = String.join(", ", Collections.nCopies(method.getParameterCount(), "\\w+"));
                checks.holds("README tells " + method,
                    Pattern.compile("`" + method.getName() + "\\(" + names + "\\)`").matcher(page).find());
            }
        }
    }

    private static void constants(Checks checks, String page) throws ReflectiveOperationException {
        for (Field field : WalkingStreets.class.getDeclaredFields()) {
            if (Modifier.isPublic(field.getModifiers())) {
                String row = "| `" + field.getName() + "` | " + field.getInt(null) + " |";
                checks.holds("README has the row " + row, page.contains(row));
            }
        }
    }

    private static void tests(Checks checks, String page) throws IOException {
        List<String> names;
        try (Stream<Path> files = Files.list(Path.of("src/test/java"))) {
            names = files.map(file -> file.getFileName().toString().replace(".java", ""))
                .filter(name -> name.endsWith("Tests")).collect(Collectors.toList());
        }
        for (String name : names) {
            checks.holds("README tells " + name, page.contains("`" + name + "`"));
        }
    }

    private ReadmeTests() {
    }
}
