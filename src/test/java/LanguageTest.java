import java.io.IOException;
import java.lang.reflect.Constructor;
import java.lang.reflect.Field;
import java.lang.reflect.Method;
import java.lang.reflect.Modifier;
import java.nio.charset.StandardCharsets;
import java.nio.file.Files;
import java.nio.file.Path;
import java.util.Set;
import java.util.TreeSet;
import java.util.regex.Matcher;
import java.util.regex.Pattern;

/** The face of the document, and of ../shared/LANGUAGE.md what can be seen in the source by its words. */
public final class LanguageTest {
    private static final Check CHECK = new Check("LanguageTest");
    private static final Path SOURCE = Path.of("src/main/java/HatGoes.java");

    private static final String[] FACE = {
        "int guest(int, int, int)", "int of(int, int)", "int fact(int, boolean)", "int hat(int)",
        "int row(int, int, int)", "int feed(int)", "int house()", "int told(int)", "int saying()",
        "int at(int, int)", "int comes(int)", "int soonest(int, int)", "int keeps(int, int)", "int was(int)",
        "int lied(int)", "int stranger(int, int)", "int wants(int, int, int)", "int rid(int, int, int)",
        "int two(int)", "long odds(int, int, int)", "long mean(int, int)", "int book(int)", "int looked()",
        "int judge(int, int)", "int image()", "int undo()", "int act(int, int, int)", "int trace(int)",
        "int taken(int, int)", "int count(int)", "int tape(int, int, int)", "int item(int, int, long)",
        "long read(int, int)", "int shift(int, int, int, int, int)"};

    public static void main(String[] args) throws IOException {
        face();
        inside();
        words(new String(Files.readAllBytes(SOURCE), StandardCharsets.UTF_8));
        CHECK.end();
    }

    private static String form(Method method) {
        StringBuilder form = new StringBuilder();
        form.append(method.getReturnType().getName()).append(' ').append(method.getName()).append('(');
        String between = "";
        for (Class<?> type : method.getParameterTypes()) {
            form.append(between).append(type.getName());
            between = ", ";
        }
        return form.append(')').toString();
    }

    private static void face() {
        Set<String> due = new TreeSet<>(Set.of(FACE));
        Set<String> names = new TreeSet<>();
        Set<String> open = new TreeSet<>();
        for (Method method : HatGoes.class.getDeclaredMethods()) {
            if (Modifier.isPublic(method.getModifiers())) {
                open.add(form(method));
                names.add(method.getName());
            }
        }
        CHECK.holds("the calls are the document's, but for " + open, open.equals(due));
        for (Method method : HatGoes.class.getDeclaredMethods()) {
            int is = method.getModifiers();
            boolean own = Modifier.isPublic(is) || Modifier.isPrivate(is) && !names.contains(method.getName());
            CHECK.holds(form(method) + " is of the face, or private with a name of its own", own);
        }
        Set<String> constants = Set.of("NONE", "BAD", "STATE", "FULL", "NO");
        for (Field field : HatGoes.class.getDeclaredFields()) {
            boolean open2 = constants.contains(field.getName());
            CHECK.holds(field.getName(), open2 ? Modifier.isPublic(field.getModifiers())
                : Modifier.isPrivate(field.getModifiers()));
        }
        Constructor<?>[] made = HatGoes.class.getDeclaredConstructors();
        CHECK.holds("one constructor", made.length == 1 && Modifier.isPublic(made[0].getModifiers())
            && made[0].getParameterCount() == 0);
        CHECK.holds("final", Modifier.isFinal(HatGoes.class.getModifiers()));
    }

    private static void inside() {
        Class<?>[] inside = HatGoes.class.getDeclaredClasses();
        CHECK.holds("some twelve classes", inside.length < 13);
        for (Class<?> each : inside) {
            int is = each.getModifiers();
            CHECK.holds(each + " is static, not public", Modifier.isStatic(is) && !Modifier.isPublic(is)
                && !Modifier.isProtected(is));
            fields(each);
        }
        fields(HatGoes.class);
    }

    private static void fields(Class<?> each) {
        int count = 0;
        for (Field field : each.getDeclaredFields()) {
            int is = field.getModifiers();
            CHECK.holds(field + " is final if static", !Modifier.isStatic(is) || Modifier.isFinal(is));
            count += Modifier.isStatic(is) ? 0 : 1;
        }
        CHECK.holds(each + " has some twenty fields: " + count, count <= 20);
    }

    private static void words(String source) {
        String code = source.replaceAll("(?s)/\\*.*?\\*/", "").replaceAll("//[^\n]*", "")
            .replaceAll("'[^'\n]*'", "' '").replaceAll("\"[^\"\n]*\"", "\"\"");
        String[] barred = {"throw", "throws", "try", "catch", "finally", "synchronized", "assert", "volatile",
            "native", "Object", "equals", "hashCode", "toString", "Thread", "Random", "System.currentTimeMillis",
            "System.nanoTime", "package", "var", "while", "do", "protected"};
        for (String word : barred) {
            CHECK.holds("no " + word, !Pattern.compile("\\b" + Pattern.quote(word) + "\\b").matcher(code).find());
        }
        CHECK.holds("no lambda", !code.contains("->"));
        CHECK.holds("no method reference", !code.contains("::"));
        CHECK.holds("no annotation", !code.contains("@"));
        Matcher library = Pattern.compile("\\b(Arrays|System|Math|Integer|Long|String)\\.(\\w+)").matcher(code);
        Set<String> allowed = Set.of("Arrays.fill", "System.arraycopy", "Math.floorMod", "Math.min", "Math.max",
            "Integer.bitCount", "Long.MIN_VALUE");
        while (library.find()) {
            CHECK.holds(library.group() + " is of the library that is left", allowed.contains(library.group()));
        }
        methodsAreShort(code);
    }

    private static void methodsAreShort(String code) {
        String[] lines = code.split("\n");
        Pattern head = Pattern.compile("^( {4}| {8})\\w[\\w\\[\\]<> ]*\\([^;]*\\) \\{$");
        int heads = 0;
        for (int k = 0; k < lines.length; k++) {
            Matcher m = head.matcher(lines[k]);
            if (m.matches()) {
                heads++;
                int end = k;
                while (end < lines.length && !lines[end].equals(m.group(1) + "}")) {
                    end++;
                }
                CHECK.holds("some sixty lines: " + lines[k].trim(), end - k <= 60);
                CHECK.holds("seven parameters: " + lines[k].trim(), lines[k].split(",").length <= 7);
            }
        }
        CHECK.holds("methods are found", heads > FACE.length);
    }
}
