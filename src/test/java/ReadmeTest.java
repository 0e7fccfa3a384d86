import java.io.IOException;
import java.lang.reflect.InvocationTargetException;
import java.lang.reflect.Method;
import java.lang.reflect.Modifier;
import java.nio.file.Files;
import java.nio.file.Path;
import java.util.ArrayList;
import java.util.List;
import java.util.regex.Matcher;
import java.util.regex.Pattern;

/** README.md: each line of its examples answers what stands behind it. */
public final class ReadmeTest {
    private static final Pattern LINE = Pattern.compile("x\\.(\\w+)\\(([^)]*)\\);\\s*// (-?\\d+|true|false|\\w+Exception)\\b.*");
    private static final Pattern TELL = Pattern.compile("Check\\.tell\\(x, text\\);\\s*// (\\d+)\\b.*");

    public static void main(String[] args) throws IOException, ReflectiveOperationException {
        List<String> lines = Files.readAllLines(Path.of("README.md"));
        String text = String.join("\n", blocks(lines, "```text").get(0));
        List<List<String>> examples = blocks(lines, "```java");
        Check.same("examples", examples.size(), 2);
        for (List<String> example : examples) {
            play(example, text);
        }
        String all = String.join("\n", lines);
        for (Method method : RansomHymn.class.getDeclaredMethods()) {
            boolean isCall = Modifier.isPublic(method.getModifiers());
            Check.isTrue(method + " stands in README.md", !isCall || all.contains("`" + method.getName() + "`"));
        }
        Check.end("ReadmeTest");
    }

    private static List<List<String>> blocks(List<String> lines, String fence) {
        List<List<String>> found = new ArrayList<>();
        List<String> open = null;
        for (String line : lines) {
            if (open != null && line.equals("```")) {
                found.add(open);
                open = null;
            } else if (open != null) {
                open.add(line);
            } else if (line.equals(fence)) {
                open = new ArrayList<>();
            }
        }
        return found;
    }

    private static void play(List<String> example, String text) throws ReflectiveOperationException {
        RansomHymn x = null;
        for (String line : example) {
            Matcher tell = TELL.matcher(line);
            Matcher call = LINE.matcher(line);
            if (line.equals("RansomHymn x = new RansomHymn();")) {
                x = new RansomHymn();
            } else if (tell.matches()) {
                Check.same(line, Check.tell(x, text), Long.parseLong(tell.group(1)));
            } else if (call.matches()) {
                String answer = answer(x, call.group(1), call.group(2));
                Check.isTrue(line + " but it answered " + answer, answer.equals(call.group(3)));
            } else {
                Check.isTrue(line + " is a call with its answer", false);
            }
        }
    }

    private static String answer(RansomHymn x, String name, String written) throws ReflectiveOperationException {
        String[] parts = written.isEmpty() ? new String[0] : written.split(", ");
        Class<?>[] types = new Class<?>[parts.length];
        Object[] numbers = new Object[parts.length];
        for (int i = 0; i < parts.length; i++) {
            types[i] = int.class;
            numbers[i] = Integer.decode(parts[i]);
        }
        try {
            return String.valueOf(RansomHymn.class.getMethod(name, types).invoke(x, numbers));
        } catch (InvocationTargetException thrown) {
            return thrown.getCause().getClass().getSimpleName();
        }
    }
}
