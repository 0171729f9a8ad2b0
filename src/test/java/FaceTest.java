import java.io.IOException;
import java.lang.management.ManagementFactory;
import java.lang.reflect.Constructor;
import java.lang.reflect.Field;
import java.lang.reflect.Method;
import java.lang.reflect.Modifier;
import java.nio.file.Files;
import java.nio.file.Path;
import java.util.Set;
import java.util.TreeSet;
import java.util.regex.Matcher;
import java.util.regex.Pattern;

/** The public face, the words that LANGUAGE.md leaves out, and the room that calls take. */
final class FaceTest {
    private static final String FACE = "act(int,int)boolean bears(int,int)int bell(int,int)int best(int,int)int book(int,int)int casts(int)int "
        + "end(int)boolean fault(int)int feed(int,int,int,int,int)int feeds(int)int game(int)int goes(int,int)int heard(int,int)int "
        + "hold(int,int,int)boolean holds(int)int hours(int)int image(boolean)boolean look(int)int lost()int meant(int,int)int of(int,int)int "
        + "opinion(int,int)boolean peal(int,int)int peals(int)int pigeon(int)int pull(int)int ringer(int,int,int)int round(int,int)int "
        + "row(int,int,int)int see(int,int)int set(int,int,int)boolean sign(int,int)int state(int)int stranger(int,int)int text(int)int "
        + "together(int)int undo()boolean waves(int,int,int)int ";

    private FaceTest() {
    }

    public static void main(String[] args) throws IOException {
        face();
        language();
        room();
        Check.finish("FaceTest");
    }

    private static void face() {
        StringBuilder all = new StringBuilder();
        Set<String> open = new TreeSet<>();
        Set<String> names = new TreeSet<>();
        for (Method m : DeafBells.class.getDeclaredMethods()) {
            if (!Modifier.isPrivate(m.getModifiers())) {
                String what = m.toString().replaceAll(".*\\(|\\).*", "");
                open.add(m.getName() + "(" + what + ")" + m.getReturnType());
                names.add(m.getName());
                Check.due(m.getName() + " is public, not static", m.getModifiers(), Modifier.PUBLIC);
            }
        }
        open.forEach(s -> all.append(s).append(' '));
        Check.due("the face is\n" + all + "\n", all.toString().equals(FACE), true);
        for (Method m : DeafBells.class.getDeclaredMethods()) {
            Check.due(m.getName() + " is private and has a public one's name", Modifier.isPrivate(m.getModifiers()) && names.contains(m.getName()), false);
        }
        for (Class<?> inside : DeafBells.class.getDeclaredClasses()) {
            Check.due(inside.getName() + " is static", Modifier.isStatic(inside.getModifiers()), true);
            Check.due(inside.getName() + " is open", Modifier.isPublic(inside.getModifiers()) || Modifier.isProtected(inside.getModifiers()), false);
            for (Method m : inside.getDeclaredMethods()) {
                Check.due(inside.getName() + "." + m.getName() + " has a public one's name", names.contains(m.getName()), false);
                Check.due(inside.getName() + "." + m.getName() + " takes seven at most", m.getParameterCount() <= 7, true);
            }
            for (Field f : inside.getDeclaredFields()) {
                Check.due(inside.getName() + "." + f.getName() + " is static and not final", Modifier.isStatic(f.getModifiers()) && !Modifier.isFinal(f.getModifiers()), false);
            }
        }
        for (Field f : DeafBells.class.getDeclaredFields()) {
            Check.due(f.getName() + " is open", !Modifier.isPrivate(f.getModifiers()), f.getName().equals("NONE"));
        }
        Constructor<?>[] made = DeafBells.class.getDeclaredConstructors();
        Check.due("one constructor", made.length, 1);
        Check.due("without arguments, public", made[0].getParameterCount() == 0 && made[0].getModifiers() == Modifier.PUBLIC, true);
        Check.due("public and final", DeafBells.class.getModifiers(), Modifier.PUBLIC | Modifier.FINAL);
        Check.due("classes", DeafBells.class.getDeclaredClasses().length < 12, true);
        Check.due("NONE", DeafBells.NONE, -1);
    }

    private static void language() throws IOException {
        String source = Files.readString(Path.of("src/main/java/DeafBells.java"));
        String bare = source.replaceAll("/\\*(?s:.*?)\\*/", "").replaceAll("//.*", "");
        String[] not = {"throw", "throws", "try", "catch", "synchronized", "assert", "package", "protected", "Exact", "->", "::", "Object", "equals", "hashCode", "toString", "System\\.(?!arraycopy)"};
        for (String word : not) {
            Matcher m = Pattern.compile(word.matches("\\w+") ? "\\b" + word + "\\b" : word).matcher(bare);
            Check.due(word + " stands in the source", m.find(), false);
        }
        Matcher imports = Pattern.compile("import ([^;]*);").matcher(bare);
        while (imports.find()) {
            Check.due("import " + imports.group(1), imports.group(1).equals("java.util.Arrays"), true);
        }
        Check.due("signs beyond 127", source.chars().allMatch(c -> c < 128), true);
    }

    // Without a single object made by a call, 512 calls take the room of the constructor and one image.
    private static void room() {
        com.sun.management.ThreadMXBean threads = (com.sun.management.ThreadMXBean) ManagementFactory.getThreadMXBean();
        long thread = Thread.currentThread().getId();
        for (int i = 0; i < 20; i++) {
            busy(new DeafBells());
        }
        long before = threads.getThreadAllocatedBytes(thread);
        DeafBells x = new DeafBells();
        long made = threads.getThreadAllocatedBytes(thread);
        x.image(true);
        long imaged = threads.getThreadAllocatedBytes(thread);
        busy(x);
        long after = threads.getThreadAllocatedBytes(thread);
        Check.due("a new object takes " + (made - before) + " bytes", made - before < 60_000, true);
        Check.due("an image takes " + (imaged - made) + " bytes", imaged - made < 20_000, true);
        Check.due("calls take " + (after - imaged) + " bytes", after - imaged < 1_000, true);
    }

    private static int busy(DeafBells x) {
        int sum = 0;
        for (int r = 0; r < 10; r++) {
            sum += x.ringer(r % 8, r, r);
        }
        for (int i = 0; i < 10; i++) {
            x.image(true);
            x.feed(0x70756c6c, 0x20353030, 0x3b686172, 0x64206665, 0x656c3b20);
            sum += x.text(0) + x.hours(60) + x.goes(60, 0) + x.peal(8, 0) + x.row(8, 0, 0) + x.meant(0, 0) + x.together(-1);
            sum += x.holds(0) + x.holds(10) + x.waves(0, 1, 0) + x.bears(100, 1) + x.best(1, 0) + x.heard(0, 0) + x.heard(0, 2);
            sum += x.feeds(0) + x.feeds(10) + x.casts(1) + x.peals(1) + x.peals(10) + x.game(0) + x.look(4) + x.of(0, 7) + x.pull(0);
            x.undo();
            x.image(false);
        }
        return sum;
    }
}
