import java.io.IOException;
import java.lang.reflect.Method;
import java.lang.reflect.Modifier;
import java.nio.file.Files;
import java.nio.file.Path;
import java.util.Set;
import java.util.TreeSet;
import java.util.regex.Matcher;
import java.util.regex.Pattern;

/** README.md: its example answers what stands behind each call, and it names every call there is. */
public final class ReadmeTest {
    private static final Check CHECK = new Check();
    private static final Pattern EXAMPLE = Pattern.compile("(?s)```java\n(.*?)```");
    private static final Pattern CALL = Pattern.compile("m\\.(\\w+)\\(([^)]*)\\);\\s+// (-?\\d+)(?:: .*)?");

    public static void main(String[] args) throws IOException, ReflectiveOperationException {
        String text = Files.readString(Path.of("README.md"));
        Matcher example = EXAMPLE.matcher(text);
        CHECK.due("an example", example.find() ? 1 : 0, 1);
        makeRun(example.group(1).split("\n"));
        CHECK.due("examples behind it", example.find() ? 1 : 0, 0);
        namesEveryCall(text);
        CHECK.finish();
    }

    private static void makeRun(String[] lines) throws ReflectiveOperationException {
        CHECK.due("its first line", lines[0], "LineMonitor m = new LineMonitor();");
        LineMonitor m = new LineMonitor();
        for (int i = 1; i < lines.length; i++) {
            Matcher call = CALL.matcher(lines[i]);
            if (call.matches()) {
                CHECK.due(lines[i], answer(m, call.group(1), call.group(2)), Long.parseLong(call.group(3)));
            } else {
                CHECK.due("a call and its answer", lines[i], "");
            }
        }
    }

    private static long answer(LineMonitor m, String name, String list) throws ReflectiveOperationException {
        String[] words = list.isEmpty() ? new String[0] : list.split(", ");
        Class<?>[] types = new Class<?>[words.length];
        Object[] args = new Object[words.length];
        for (int i = 0; i < words.length; i++) {
            types[i] = int.class;
            args[i] = Long.decode(words[i]).intValue();
        }
        return ((Number) LineMonitor.class.getMethod(name, types).invoke(m, args)).longValue();
    }

    private static void namesEveryCall(String text) {
        Set<String> names = new TreeSet<>();
        for (Method method : LineMonitor.class.getDeclaredMethods()) {
            if (Modifier.isPublic(method.getModifiers())) {
                names.add(method.getName());
            }
        }
        for (String name : names) {
            CHECK.due("README.md names " + name, text.contains("`" + name + "`") ? 1 : 0, 1);
        }
    }
}
