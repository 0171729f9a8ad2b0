import java.lang.reflect.InvocationTargetException;
import java.lang.reflect.Method;
import java.util.ArrayList;
import java.util.Arrays;
import java.util.Comparator;
import java.util.List;
import java.util.Random;

/** Calls with edges of all kinds for arguments, in any order: none throws, and each answers as the Model does. */
final class WildTest {
    private static final int RUNS = 400;
    private static final int CALLS = 512;
    private static final int[] EDGES = {Integer.MIN_VALUE, Integer.MIN_VALUE + 1, -65536, -100, -10, -9, -2, -1, 0, 1, 2, 3, 4, 5, 6, 7, 8, 9, 10,
        11, 12, 13, 14, 15, 16, 17, 18, 19, 20, 21, 23, 24, 25, 31, 32, 33, 59, 60, 61, 63, 64, 98, 99, 100, 150, 255, 256, 400, 401, 512,
        799, 800, 801, 999, 1000, 9998, 9999, 10000, 27719, 27720, 65535, 65536, 1 << 30, Integer.MAX_VALUE - 1, Integer.MAX_VALUE};
    private static final String[] TEXTS = {"pull 500; hard feel; lost sway/3;", "pull felt * 600 + 400 when not hour > 20;", "ringer 0 feels 1;", "at 3 wedding 50; at 4 fire 9;",
        "swap 0 2;swap 1;", "", "pull", "swap 6 4 2 0; swap 1 3 5;", "ringer 1 feels 0; ringer 2 feels 0;", "at 0 draught 9;", "hard 9; pull 1000;"};

    private WildTest() {
    }

    public static void main(String[] args) throws ReflectiveOperationException {
        List<Method> calls = new ArrayList<>();
        List<Method> models = new ArrayList<>();
        Method[] face = DeafBells.class.getDeclaredMethods();
        Arrays.sort(face, Comparator.comparing(Method::getName));
        for (Method m : face) {
            if (java.lang.reflect.Modifier.isPublic(m.getModifiers())) {
                calls.add(m);
                models.add(Model.class.getDeclaredMethod(m.getName(), m.getParameterTypes()));
            }
        }
        for (int seed = 0; seed < RUNS; seed++) {
            play(calls, models, new Random(seed));
        }
        Check.finish("WildTest, " + RUNS + " runs");
    }

    private static void play(List<Method> calls, List<Method> models, Random random) throws ReflectiveOperationException {
        DeafBells x = new DeafBells();
        Model m = new Model();
        int near = random.nextInt(3);
        for (int n = 0; n < CALLS; n++) {
            if (random.nextInt(12) == 0) {
                String text = TEXTS[random.nextInt(TEXTS.length)];
                n += put(x, m, text);
            }
            int i = random.nextInt(calls.size());
            Object[] args = new Object[calls.get(i).getParameterCount()];
            for (int a = 0; a < args.length; a++) {
                boolean truth = calls.get(i).getParameterTypes()[a] == boolean.class;
                args[a] = truth ? (Object) (random.nextInt(3) == 0) : (Object) number(random, near);
            }
            Object want = models.get(i).invoke(m, args);
            try {
                Object got = calls.get(i).invoke(x, args);
                Check.due(calls.get(i).getName() + Arrays.toString(args) + " answered " + got + ", the Model " + want, got.equals(want), true);
            } catch (InvocationTargetException e) {
                Check.due(calls.get(i).getName() + Arrays.toString(args) + " threw " + e.getCause(), true, false);
            }
        }
    }

    // Small ones more often, so that something comes about.
    private static int number(Random random, int near) {
        int kind = random.nextInt(10);
        return kind < 6 ? random.nextInt(near == 0 ? 3 : near == 1 ? 6 : 12) : kind < 9 ? EDGES[random.nextInt(EDGES.length)] : random.nextInt();
    }

    private static int put(DeafBells x, Model m, String text) {
        x.end(0);
        m.end(0);
        int feeds = 0;
        for (int at = 0; at < text.length(); at += 20) {
            int[] v = new int[5];
            for (int j = 0; j < 20; j++) {
                v[j / 4] = v[j / 4] << 8 | (at + j < text.length() ? text.charAt(at + j) : 32);
            }
            x.feed(v[0], v[1], v[2], v[3], v[4]);
            m.feed(v[0], v[1], v[2], v[3], v[4]);
            feeds++;
        }
        int k = text.startsWith("ringer") ? 1 : text.startsWith("at") ? 2 : text.startsWith("swap") ? 3 : 0;
        Check.due("text(" + k + ") of " + text, x.text(k), m.text(k));
        return feeds + 2;
    }
}
