import java.lang.reflect.Method;
import java.nio.file.Files;
import java.nio.file.Path;
import java.util.TreeSet;
import java.util.regex.Matcher;
import java.util.regex.Pattern;

/** The examples of README.md: each call in them has the answer that stands behind it; and each test is told of there. */
public final class ReadmeTest {
    private static final Pattern BLOCK = Pattern.compile("(?s)```java\n(.*?)```");
    private static final Pattern CALL = Pattern.compile("x\\.(\\w+)\\((.*)\\); +// (-?[0-9]+|[A-Z_]+): .*");

    public static void main(String[] args) throws Exception {
        String text = Files.readString(Path.of("README.md"));
        int calls = 0;
        TreeSet<String> told = new TreeSet<>();
        for (Matcher block = BLOCK.matcher(text); block.find(); ) {
            JettyHoses x = null;
            for (String line : block.group(1).split("\n")) {
                if (line.equals("JettyHoses x = new JettyHoses();")) {
                    x = new JettyHoses();
                    continue;
                }
                Matcher call = CALL.matcher(line);
                Check.due("README.md has a call and its answer: " + line, call.matches() ? 1 : 0, 1);
                Check.due("README.md: " + line, answer(x, call.group(1), call.group(2)), due(call.group(3)));
                told.add(call.group(1));
                calls++;
            }
        }
        Check.due("README.md has examples", calls > 20 ? 1 : 0, 1);
        for (Method method : JettyHoses.class.getDeclaredMethods()) {
            boolean isPublic = java.lang.reflect.Modifier.isPublic(method.getModifiers());
            Check.due("README.md has an example of " + method.getName(), !isPublic || told.contains(method.getName()) ? 1 : 0, 1);
        }
        dueTests(text);
        Check.end("ReadmeTest");
    }

    private static void dueTests(String text) throws Exception {
        try (java.util.stream.Stream<Path> files = Files.list(Path.of("src/test/java"))) {
            for (Path file : files.toList()) {
                String name = file.getFileName().toString().replace(".java", "");
                Check.due("README.md tells of " + name, !name.endsWith("Test") || text.contains("| " + name + " |") ? 1 : 0, 1);
            }
        }
    }

    private static int due(String text) throws Exception {
        return Character.isLetter(text.charAt(0)) ? JettyHoses.class.getField(text).getInt(null) : Integer.parseInt(text);
    }

    private static int answer(JettyHoses x, String name, String list) throws Exception {
        String[] texts = list.isEmpty() ? new String[0] : list.split(", ");
        for (Method method : JettyHoses.class.getMethods()) {
            Class<?>[] types = method.getParameterTypes();
            if (!method.getName().equals(name) || types.length != texts.length) {
                continue;
            }
            Object[] values = new Object[texts.length];
            for (int i = 0; i < texts.length; i++) {
                values[i] = value(texts[i], types[i]);
            }
            return (int) method.invoke(x, values);
        }
        return 0;
    }

    private static Object value(String text, Class<?> type) throws Exception {
        if (type == boolean.class) {
            return text.equals("true");
        }
        if (type == long.class) {
            return Long.decode(text.replace("L", ""));
        }
        return due(text.replace("JettyHoses.", ""));
    }
}
