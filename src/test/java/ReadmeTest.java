import java.io.IOException;
import java.lang.reflect.Method;
import java.lang.reflect.Modifier;
import java.nio.charset.StandardCharsets;
import java.nio.file.Files;
import java.nio.file.Path;
import java.util.List;
import java.util.regex.Matcher;
import java.util.regex.Pattern;
import java.util.stream.Stream;

/** README.md: its examples answer as it says, and it names every call and every test. */
public final class ReadmeTest {
    private static final Check CHECK = new Check("ReadmeTest");
    private static final Path PAGE = Path.of("README.md");
    private static final Path TESTS = Path.of("src/test/java");
    private static final Pattern CALL = Pattern.compile("x\\.(\\w+)\\((.*?)\\);(?: +// (-?\\d+)(?:: .*)?)?");
    private static final Pattern TEXT = Pattern.compile("for \\(char sign : \"(.*)\"\\.toCharArray\\(\\)\\) \\{");

    public static void main(String[] args) throws IOException {
        String page = Files.readString(PAGE, StandardCharsets.UTF_8);
        List<String> examples = Pattern.compile("(?s)```java\n(.*?)```").matcher(page).results()
            .map(found -> found.group(1)).toList();
        CHECK.holds("there are examples", !examples.isEmpty());
        for (String example : examples) {
            example(example);
        }
        for (Method method : HatGoes.class.getDeclaredMethods()) {
            boolean open = Modifier.isPublic(method.getModifiers());
            CHECK.holds("an example calls " + method.getName(), !open || page.contains("x." + method.getName() + "("));
        }
        tests(page);
        CHECK.end();
    }

    private static void example(String example) {
        HatGoes x = new HatGoes();
        String text = "";
        for (String line : example.split("\n")) {
            Matcher call = CALL.matcher(line.trim());
            Matcher loop = TEXT.matcher(line);
            if (loop.matches()) {
                text = loop.group(1);
            } else if (line.equals("    x.feed(sign);")) {
                for (char sign : text.toCharArray()) {
                    CHECK.holds("feed of " + text, x.feed(sign) > 0);
                }
            } else if (call.matches()) {
                long answer = asked(x, call.group(1), call.group(2));
                CHECK.holds("the page tells the answer of: " + line, call.group(3) != null);
                if (call.group(3) != null) {
                    CHECK.due(line, answer, Long.parseLong(call.group(3)));
                }
            } else {
                CHECK.holds("a line that can be followed: " + line,
                    line.equals("}") || line.equals("HatGoes x = new HatGoes();"));
            }
        }
    }

    private static long asked(HatGoes x, String name, String given) {
        String[] words = given.isEmpty() ? new String[0] : given.split(", ");
        for (Method method : HatGoes.class.getMethods()) {
            Class<?>[] types = method.getParameterTypes();
            if (method.getName().equals(name) && types.length == words.length) {
                Object[] values = new Object[words.length];
                for (int k = 0; k < words.length; k++) {
                    values[k] = value(types[k], words[k]);
                }
                return answer(x, method, values);
            }
        }
        CHECK.holds("there is a call " + name + "(" + given + ")", false);
        return 0;
    }

    private static Object value(Class<?> type, String word) {
        if (type == boolean.class) {
            return Boolean.valueOf(word);
        }
        if (type == long.class) {
            return Long.valueOf(word);
        }
        return Integer.valueOf(word);
    }

    private static long answer(HatGoes x, Method method, Object[] values) {
        try {
            return ((Number) method.invoke(x, values)).longValue();
        } catch (ReflectiveOperationException thrown) {
            CHECK.holds(method.getName() + " answers: " + thrown, false);
            return 0;
        }
    }

    /** The table of tests has a row for each file with a main method, and no others. */
    private static void tests(String page) throws IOException {
        List<String> rows = Pattern.compile("\n\\| `(\\w+Test)` \\|").matcher(page).results()
            .map(found -> found.group(1)).sorted().toList();
        List<String> files;
        try (Stream<Path> all = Files.list(TESTS)) {
            files = all.map(file -> file.getFileName().toString()).filter(name -> name.endsWith("Test.java"))
                .map(name -> name.replace(".java", "")).sorted().toList();
        }
        CHECK.holds("the page tells the tests " + files + ", and not " + rows, rows.equals(files));
        for (String file : files) {
            String source = Files.readString(TESTS.resolve(file + ".java"), StandardCharsets.UTF_8);
            CHECK.holds(file + " has a main method", source.contains("static void main("));
        }
    }
}
