import java.io.File;
import java.io.IOException;
import java.io.PrintWriter;
import java.io.StringWriter;
import java.lang.reflect.Field;
import java.lang.reflect.Modifier;
import java.nio.file.Files;
import java.nio.file.Path;
import java.util.ArrayList;
import java.util.HashSet;
import java.util.List;
import java.util.Map;
import java.util.Set;
import java.util.TreeMap;
import java.util.TreeSet;
import java.util.regex.Matcher;
import java.util.regex.Pattern;
import java.util.spi.ToolProvider;

/** What LANGUAGE.md counts and leaves out, looked for in what the compiler makes of the class. */
final class LanguageTest {
    private static final int MOST_LINES = 60;
    private static final int MOST_FIELDS = 20;
    private static final int MOST_DEEP = 8;
    // LANGUAGE.md lists more than these; what the class comes to use of it is put here.
    private static final Set<String> LIBRARY = Set.of(
        "java/lang/Object.<init>", "java/lang/String.length", "java/lang/String.charAt", "java/lang/String.indexOf",
        "java/lang/Math.max", "java/lang/Math.min", "java/lang/Math.floorMod", "java/lang/Math.floorDiv",
        "java/lang/Integer.bitCount", "java/lang/Integer.lowestOneBit", "java/lang/System.arraycopy", "java/util/Arrays.fill");
    private static final Pattern HEAD = Pattern.compile("^  (?! )(?:[^(]* )?([\\w$]+)\\(.*\\);$");
    private static final Pattern CALLED = Pattern.compile("invoke\\w+ .*// (?:Interface)?Method (?:([\\w$/\"\\[;]+)\\.)?\"?([\\w<>]+)\"?:");
    private static final Pattern MADE = Pattern.compile(": (new|newarray|anewarray|multianewarray) ");

    private final Map<String, Set<String>> calls = new TreeMap<>();
    private final Set<String> inCircles = new TreeSet<>();

    private LanguageTest() {
    }

    public static void main(String[] args) throws IOException {
        LanguageTest t = new LanguageTest();
        fields();
        lengths();
        for (Class<?> inside : DeafBells.class.getDeclaredClasses()) {
            t.readCodes(inside.getName());
        }
        t.readCodes("DeafBells");
        t.depths();
        Check.finish("LanguageTest");
    }

    private static void fields() {
        countFields(DeafBells.class);
        for (Class<?> inside : DeafBells.class.getDeclaredClasses()) {
            countFields(inside);
        }
    }

    private static void countFields(Class<?> one) {
        int many = 0;
        for (Field f : one.getDeclaredFields()) {
            if (!Modifier.isStatic(f.getModifiers())) {
                many++;
            } else {
                boolean constant = f.getType() == int.class || f.getType() == String.class;
                Check.due(one.getName() + "." + f.getName() + " is a constant", constant && Modifier.isFinal(f.getModifiers()), true);
            }
        }
        Check.due(one.getName() + " has " + many + " fields", many <= MOST_FIELDS, true);
    }

    private static void lengths() throws IOException {
        List<String> lines = Files.readAllLines(Path.of("src/main/java/DeafBells.java"));
        Pattern head = Pattern.compile("^(    |        )[\\w<].*\\) \\{$");
        int methods = 0;
        for (int i = 0; i < lines.size(); i++) {
            Matcher m = head.matcher(lines.get(i));
            if (m.matches()) {
                int until = i;
                while (until < lines.size() && !lines.get(until).equals(m.group(1) + "}")) {
                    until++;
                }
                methods++;
                Check.due("lines of " + lines.get(i).trim(), until - i < MOST_LINES, true);
            }
        }
        Check.due("methods were found", methods > 100, true);
    }

    private void readCodes(String name) {
        String now = "";
        for (String line : codesOf(name).split("\n")) {
            Matcher head = HEAD.matcher(line);
            if (head.matches()) {
                now = name + "." + (head.group(1).equals(name) ? "<init>" : head.group(1));
                calls.putIfAbsent(now, new TreeSet<>());
            }
            Check.due(now + " throws or catches: " + line, line.contains(": athrow") || line.contains("Exception table"), false);
            Check.due(now + " has a lambda or joins by +: " + line, line.contains("invokedynamic"), false);
            Matcher called = CALLED.matcher(line);
            if (called.find()) {
                addCall(name, now, called.group(1), called.group(2));
            }
            boolean may = now.endsWith(".<init>") || now.equals("DeafBells.image");
            Check.due(now + " makes an object: " + line, MADE.matcher(line).find() && !may, false);
        }
    }

    private void addCall(String name, String from, String owner, String called) {
        String whose = owner == null ? name : owner;
        if (whose.startsWith("DeafBells")) {
            calls.get(from).add(whose + "." + called);
        } else {
            Check.due(from + " calls " + whose + "." + called, LIBRARY.contains(whose + "." + called), true);
        }
    }

    private static String codesOf(String name) {
        StringWriter all = new StringWriter();
        ToolProvider javap = ToolProvider.findFirst("javap").orElse(null);
        Check.due("javap is at hand", javap != null, true);
        if (javap != null) {
            File file = new File(System.getProperty("java.class.path"), name + ".class");
            javap.run(new PrintWriter(all), new PrintWriter(all), "-p", "-c", file.getPath());
        }
        return all.toString();
    }

    private void depths() {
        int deepest = 0;
        for (String one : calls.keySet()) {
            List<String> way = deepest(one, new HashSet<>());
            deepest = Math.max(deepest, way.size());
            Check.due(way + " is " + way.size() + " deep", way.size() <= MOST_DEEP, true);
        }
        Check.due("ways were found", deepest > 2, true);
        Check.due("in circles: " + inCircles, inCircles.equals(Set.of("DeafBells$Reader.readTruth", "DeafBells$Reader.readInner")), true);
    }

    private List<String> deepest(String from, Set<String> open) {
        open.add(from);
        List<String> best = new ArrayList<>();
        for (String to : calls.getOrDefault(from, Set.of())) {
            if (open.contains(to)) {
                inCircles.add(from);
                inCircles.add(to);
            } else {
                List<String> way = deepest(to, open);
                best = way.size() > best.size() ? way : best;
            }
        }
        open.remove(from);
        List<String> all = new ArrayList<>(List.of(from));
        all.addAll(best);
        return all;
    }
}
