import java.io.File;
import java.io.IOException;
import java.lang.reflect.InvocationTargetException;
import java.lang.reflect.Method;
import java.lang.reflect.Modifier;
import java.nio.file.Files;
import java.nio.file.Path;
import java.util.HashSet;
import java.util.List;
import java.util.Set;
import java.util.regex.Matcher;
import java.util.regex.Pattern;

/** README.md: its examples answer as they say; it leaves out no call of the face, and no test. */
public final class ReadmeTest {
    private static final Pattern NEW_HOUSE = Pattern.compile("ServerHouse h = new ServerHouse\\(\\);");
    private static final Pattern CALL = Pattern.compile(
        "h\\.(\\w+)\\(([^)]*)\\); +// (-?\\d+|true|false|throws \\w+)(:.*)?");

    public static void main(String[] args) throws IOException, ReflectiveOperationException {
        List<String> lines = Files.readAllLines(Path.of("README.md"));
        Set<String> shown = runExamples(lines);
        String text = String.join("\n", lines);
        for (Method m : ServerHouse.class.getDeclaredMethods()) {
            if (Modifier.isPublic(m.getModifiers())) {
                Check.due("README has a row for " + m.getName(), text.contains("| `" + m.getName() + "("), true);
                Check.due("README has an example of " + m.getName(), shown.contains(m.getName()), true);
            }
        }
        everyTestIsNamed(text);
        Check.end();
    }

    /** Runs every line of the Java examples, and tells which methods they show. */
    private static Set<String> runExamples(List<String> lines) throws ReflectiveOperationException {
        Set<String> shown = new HashSet<>();
        ServerHouse h = null;
        boolean inside = false;
        for (String line : lines) {
            if (line.startsWith("```")) {
                inside = line.equals("```java");
                h = null;
            } else if (inside && NEW_HOUSE.matcher(line).matches()) {
                h = new ServerHouse();
            } else if (inside) {
                Matcher call = CALL.matcher(line);
                boolean readable = call.matches() && h != null;
                Check.due("README's line can be run: " + line, readable, true);
                if (readable) {
                    shown.add(call.group(1));
                    String got = answer(h, call.group(1), call.group(2));
                    Check.due("README's line, which answered " + got + ", holds: " + line,
                        got.equals(call.group(3)), true);
                }
            }
        }
        return shown;
    }

    private static String answer(ServerHouse h, String name, String numbers) throws ReflectiveOperationException {
        String[] texts = numbers.isEmpty() ? new String[0] : numbers.split(", ");
        Class<?>[] types = new Class<?>[texts.length];
        Object[] values = new Object[texts.length];
        for (int i = 0; i < texts.length; i++) {
            types[i] = int.class;
            values[i] = Integer.valueOf(texts[i]);
        }
        try {
            return String.valueOf(ServerHouse.class.getMethod(name, types).invoke(h, values));
        } catch (InvocationTargetException e) {
            return "throws " + e.getCause().getClass().getSimpleName();
        }
    }

    private static void everyTestIsNamed(String text) {
        String[] files = new File("src/test/java").list();
        Check.due("there are tests", files != null && files.length > 0, true);
        for (String file : files == null ? new String[0] : files) {
            if (file.endsWith("Test.java")) {
                String name = file.substring(0, file.length() - ".java".length());
                Check.due("README names " + name, Pattern.compile("\\b" + name + "\\b").matcher(text).find(), true);
            }
        }
    }
}
