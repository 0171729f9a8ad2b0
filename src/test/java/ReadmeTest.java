import java.io.IOException;
import java.lang.reflect.Method;
import java.lang.reflect.Modifier;
import java.nio.file.Files;
import java.nio.file.Path;
import java.util.List;
import java.util.regex.Matcher;
import java.util.regex.Pattern;
import java.util.stream.Collectors;
import java.util.stream.Stream;

/** Asks each call of README.md for the answer that stands behind it; each call and each test has its place there. */
final class ReadmeTest {
    private static final Pattern NEW = Pattern.compile("DeafBells x = new DeafBells\\(\\);");
    private static final Pattern CALL = Pattern.compile("x\\.(\\w+)\\(([^)]*)\\);(?:\\s*// (-?\\w+)\\b.*)?");
    private static final Pattern TELL = Pattern.compile("tell\\(x, (\\d), \"([^\"]*)\"\\);\\s*// (-?\\w+)\\b.*");
    private static int examples = 0;

    private ReadmeTest() {
    }

    public static void main(String[] args) throws IOException, ReflectiveOperationException {
        String page = Files.readString(Path.of("README.md"));
        Matcher blocks = Pattern.compile("```java\n(DeafBells x(?s:.*?))```").matcher(page);
        while (blocks.find()) {
            play(blocks.group(1).split("\n"));
        }
        Check.due("examples", examples, 3);
        for (Method m : DeafBells.class.getDeclaredMethods()) {
            if (Modifier.isPublic(m.getModifiers())) {
                Check.due(m.getName() + " stands in README.md", page.contains("`" + m.getName() + "`"), true);
            }
        }
        for (String test : tests()) {
            Check.due(test + " stands in README.md", page.contains("`" + test + "`"), true);
        }
        Check.finish("ReadmeTest");
    }

    private static List<String> tests() throws IOException {
        try (Stream<Path> files = Files.list(Path.of("src/test/java"))) {
            return files.map(f -> f.getFileName().toString().replace(".java", "")).filter(f -> f.endsWith("Test")).collect(Collectors.toList());
        }
    }

    private static void play(String[] lines) throws ReflectiveOperationException {
        examples++;
        DeafBells x = new DeafBells();
        for (String line : lines) {
            Matcher call = CALL.matcher(line);
            Matcher tell = TELL.matcher(line);
            if (call.matches()) {
                long got = answer(x, call.group(1), call.group(2));
                Check.due(line, got, call.group(3) == null ? got : number(call.group(3)));
            } else if (tell.matches()) {
                Check.put(x, tell.group(2));
                Check.due(line, x.text(Integer.parseInt(tell.group(1))), number(tell.group(3)));
            } else {
                Check.due("can be read: " + line, NEW.matcher(line).matches(), true);
            }
        }
    }

    private static long number(String word) {
        return word.equals("true") ? 1 : word.equals("false") ? 0 : Long.parseLong(word);
    }

    private static long answer(DeafBells x, String name, String words) throws ReflectiveOperationException {
        String[] parts = words.isEmpty() ? new String[0] : words.split(", ");
        for (Method m : DeafBells.class.getDeclaredMethods()) {
            if (m.getName().equals(name) && m.getParameterCount() == parts.length) {
                Object[] given = new Object[parts.length];
                for (int i = 0; i < parts.length; i++) {
                    boolean truth = m.getParameterTypes()[i] == boolean.class;
                    given[i] = truth ? (Object) (number(parts[i]) == 1) : (Object) (int) number(parts[i]);
                }
                return number(m.invoke(x, given).toString());
            }
        }
        throw new NoSuchMethodException(name);
    }
}
