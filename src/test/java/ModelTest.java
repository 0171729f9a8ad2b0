import java.nio.charset.StandardCharsets;
import java.util.Random;

/** Runs of calls drawn by a fixed seed; each answer is compared with the Model's. */
final class ModelTest {
    private static final int RUNS = 1500;
    private static final int CALLS = 500;

    private final Random random;
    private DeafBells x = new DeafBells();
    private Model m = new Model();
    private final StringBuilder run = new StringBuilder();
    private boolean wrong = false;

    private ModelTest(long seed) {
        random = new Random(seed);
    }

    public static void main(String[] args) {
        int runs = args.length > 0 ? Integer.parseInt(args[0]) : RUNS;
        long first = args.length > 1 ? Long.parseLong(args[1]) : 1;
        int bad = 0;
        for (long seed = first; seed < first + runs && bad < 5; seed++) {
            ModelTest t = new ModelTest(seed);
            t.play();
            if (t.wrong) {
                bad++;
                String all = t.run.toString();
                System.out.println("seed " + seed + ": .. " + all.substring(Math.max(0, all.length() - 3000)));
            }
        }
        Check.due("runs unlike the Model's", bad, 0);
        Check.finish("ModelTest, " + runs + " runs");
    }

    private int upTo(int n) {
        return random.nextInt(n);
    }

    // Mostly a number that can be, at times its edge or one beyond it.
    private int about(int least, int most) {
        switch (upTo(12)) {
            case 0: return least;
            case 1: return most;
            case 2: return random.nextBoolean() ? least - 1 : most + 1;
            case 3: return upTo(20) == 0 ? random.nextInt() : least;
            default: return least + upTo(most - least + 1);
        }
    }

    private void same(String call, int got, int want) {
        run.append(call).append(" = ").append(got).append(";\n");
        if (got != want) {
            wrong = true;
            run.append("    due is ").append(want);
        }
    }

    private void same(String call, boolean got, boolean want) {
        same(call, got ? 1 : 0, want ? 1 : 0);
    }

    private static String name(String call, int... args) {
        return call + java.util.Arrays.toString(args);
    }

    private void play() {
        int calls = 0;
        boolean many = random.nextBoolean();
        for (int r = many ? upTo(10) : 0; r > 0; r--) {
            ringer();
        }
        while (calls < CALLS && !wrong) {
            int c = upTo(100);
            if (c < 12) {
                calls += text();
            } else if (c < 35) {
                doing();
            } else if (c < 60) {
                telling();
            } else {
                asking();
            }
            calls++;
        }
    }

    private void ringer() {
        int a = about(0, 7);
        int b = about(0, 9);
        int c = about(0, 9);
        same(name("ringer", a, b, c), x.ringer(a, b, c), m.ringer(a, b, c));
    }

    private void doing() {
        int a = about(0, Math.max(0, m.look(0) - 1));
        switch (upTo(12)) {
            case 0: case 1: case 2:
                same(name("pull", a), x.pull(a), m.pull(a));
                break;
            case 3: case 4: case 5:
                int what = about(0, 2);
                same(name("act", what, a), x.act(what, a), m.act(what, a));
                break;
            case 6: case 7: case 8:
                int n = upTo(3) == 0 ? about(1, 60) : 1 + upTo(4);
                same(name("hours", n), x.hours(n), m.hours(n));
                break;
            case 9: case 10:
                same("undo", x.undo(), m.undo());
                break;
            default:
                boolean taken = upTo(3) == 0;
                same("image " + taken, x.image(taken), m.image(taken));
                break;
        }
    }

    private void telling() {
        int a;
        int b;
        int c;
        switch (upTo(12)) {
            case 0:
                if (upTo(4) == 0) {
                    a = random.nextInt();
                    same(name("state", a), x.state(a), m.state(a));
                }
                break;
            case 1:
                ringer();
                break;
            case 2: case 3:
                a = about(0, 6);
                b = about(0, 7);
                c = about(0, a == 3 ? 9999 : a == 4 ? 7 : 99);
                same(name("set", a, b, c), x.set(a, b, c), m.set(a, b, c));
                break;
            case 4:
                a = upTo(20) == 0 ? -1 : about(0, 65535);
                b = about(0, 99);
                same(name("sign", a, b), x.sign(a, b), m.sign(a, b));
                break;
            case 5:
                a = upTo(8) == 0 ? -1 : about(1, 12);
                b = about(0, Math.max(0, Math.min(12, a) - 1));
                same(name("round", a, b), x.round(a, b), m.round(a, b));
                break;
            case 6: case 7:
                a = about(0, 9);
                b = about(0, 7);
                c = upTo(3) == 0 ? about(0, 99) : upTo(5);
                same(name("hold", a, b, c), x.hold(a, b, c), m.hold(a, b, c));
                break;
            case 8:
                a = upTo(25) == 0 ? -1 : about(0, 11);
                b = upTo(3) == 0 ? a + 1 : about(0, 11);
                same(name("see", a, b), x.see(a, b), m.see(a, b));
                break;
            case 9:
                a = upTo(30) == 0 ? -1 : about(0, 99);
                same(name("pigeon", a), x.pigeon(a), m.pigeon(a));
                break;
            case 10:
                a = upTo(25) == 0 ? -1 : about(0, 9);
                b = upTo(3) == 0 ? a + 1 : about(0, 9);
                same(name("stranger", a, b), x.stranger(a, b), m.stranger(a, b));
                break;
            default:
                a = about(0, 9);
                b = about(-9, 9);
                same(name("opinion", a, b), x.opinion(a, b), m.opinion(a, b));
                break;
        }
    }

    private void asking() {
        int ringers = Math.max(1, m.look(0));
        int a;
        int b;
        int c;
        switch (upTo(22)) {
            case 0: a = about(0, 1); same(name("fault", a), x.fault(a), m.fault(a)); break;
            case 1: case 2: a = about(0, ringers - 1); b = about(0, 8); same(name("of", a, b), x.of(a, b), m.of(a, b)); break;
            case 3: a = about(0, 7); b = about(0, 1); same(name("bell", a, b), x.bell(a, b), m.bell(a, b)); break;
            case 4: same("lost", x.lost(), m.lost()); break;
            case 5: a = about(0, Math.max(0, m.look(6) - 1)); b = about(0, 3); same(name("book", a, b), x.book(a, b), m.book(a, b)); break;
            case 6: a = about(1, 60); b = about(0, 3); same(name("goes", a, b), x.goes(a, b), m.goes(a, b)); break;
            case 7: a = about(2, 8); b = about(0, 1); same(name("peal", a, b), x.peal(a, b), m.peal(a, b)); break;
            case 8: a = about(2, 8); b = upTo(2) == 0 ? about(0, 999) : upTo(20); c = about(0, Math.max(0, Math.min(8, a) - 1));
                same(name("row", a, b, c), x.row(a, b, c), m.row(a, b, c)); break;
            case 9: a = about(0, 65535); b = about(0, 3); same(name("meant", a, b), x.meant(a, b), m.meant(a, b)); break;
            case 10: a = random.nextBoolean() ? -1 : about(0, 9999); same(name("together", a), x.together(a), m.together(a)); break;
            case 11: a = upTo(3) == 0 ? 0 : about(10, 9 + ringers); same(name("holds", a), x.holds(a), m.holds(a)); break;
            case 12: a = about(0, 11); b = about(0, 11); c = about(0, 1); same(name("waves", a, b, c), x.waves(a, b, c), m.waves(a, b, c)); break;
            case 13: a = upTo(2) == 0 ? about(1, 800) : 1 + upTo(300); b = about(0, 2); same(name("bears", a, b), x.bears(a, b), m.bears(a, b)); break;
            case 14: a = about(1, 24); b = about(0, 1); same(name("best", a, b), x.best(a, b), m.best(a, b)); break;
            case 15: a = about(0, 9); b = about(0, 2); same(name("heard", a, b), x.heard(a, b), m.heard(a, b)); break;
            case 16: a = upTo(3) == 0 ? about(0, 1) : about(10, 9 + ringers); same(name("feeds", a), x.feeds(a), m.feeds(a)); break;
            case 17: a = about(0, 1); same(name("casts", a), x.casts(a), m.casts(a)); break;
            case 18: a = upTo(2) == 0 ? about(0, 1) : about(10, 9 + ringers); same(name("peals", a), x.peals(a), m.peals(a)); break;
            case 19: a = about(0, 1); same(name("game", a), x.game(a), m.game(a)); break;
            default: a = about(0, 12); same(name("look", a), x.look(a), m.look(a)); break;
        }
    }

    private int text() {
        int k = upTo(20) == 0 ? about(0, 3) : upTo(4);
        String text = upTo(30) == 0 ? "" : lines(k);
        if (upTo(3) == 0) {
            text = spoiled(text);
        }
        byte[] bytes = text.getBytes(StandardCharsets.ISO_8859_1);
        int calls = 0;
        for (int i = 0; i < bytes.length; i += 20) {
            int[] v = new int[5];
            for (int j = 0; j < 20; j++) {
                v[j / 4] = v[j / 4] << 8 | (i + j < bytes.length ? bytes[i + j] & 255 : 32);
            }
            same(name("feed", v), x.feed(v[0], v[1], v[2], v[3], v[4]), m.feed(v[0], v[1], v[2], v[3], v[4]));
            calls++;
        }
        int n = upTo(20) == 0 ? about(0, 400) : bytes.length;
        same(name("end", n), x.end(n), m.end(n));
        if (upTo(40) != 0) {
            run.append(text).append('\n');
            same(name("text", k), x.text(k), m.text(k));
            same("fault 0", x.fault(0), m.fault(0));
            same("fault 1", x.fault(1), m.fault(1));
        }
        return calls + 4;
    }

    private String lines(int k) {
        StringBuilder all = new StringBuilder();
        int many = upTo(25) == 0 ? 15 + upTo(4) : 1 + upTo(5);
        for (int i = 0; i < many; i++) {
            all.append(k == 0 ? lawLine(many) : k == 1 ? rope() : k == 2 ? day() : change()).append(blank());
        }
        return all.length() > 400 ? all.substring(0, 400) : all.toString();
    }

    private String blank() {
        return new String[] {"", " ", "", "\n", "  ", ""}[upTo(6)];
    }

    private static String pick(Random r, String... words) {
        return words[r.nextInt(words.length)];
    }

    private String lawLine(int many) {
        String line = pick(random, "pull ", "hard ", "lost ", "pull ") + sum(many > 10 ? 1 : 3);
        return line + (many <= 10 && upTo(3) != 0 ? " when " + truth(3) : "") + blank() + ";";
    }

    private String sum(int most) {
        StringBuilder all = new StringBuilder(unit());
        for (int i = upTo(most); i > 0; i--) {
            switch (upTo(5)) {
                case 0: all.append(blank()).append('+').append(unit()); break;
                case 1: all.append('-').append(blank()).append(unit()); break;
                case 2: all.append(" * ").append(unit()); break;
                case 3: all.append('/').append(upTo(30) == 0 ? 0 : 1 + upTo(20)); break;
                default: all.append("*").append(unit()).append("+").append(unit()); break;
            }
        }
        return all.toString();
    }

    private String unit() {
        switch (upTo(4)) {
            case 0: return "" + upTo(10);
            case 1: return "" + upTo(upTo(50) == 0 ? 100000 : 1000);
            default: return pick(random, "feel", "arm", "hunger", "tired", "bell", "heavy", "sway", "folk", "draught", "hour", "felt", "felt");
        }
    }

    private String truth(int depth) {
        switch (depth == 0 ? 9 : upTo(8)) {
            case 0: return "not " + truth(upTo(10) == 0 ? 8 : depth - 1);
            case 1: return "(" + truth(upTo(10) == 0 ? 8 : depth - 1) + ")";
            case 2: return truth(depth - 1) + " and " + truth(depth - 1);
            case 3: return truth(depth - 1) + " or " + truth(depth - 1);
            case 4: return "not(" + truth(depth - 1) + ")";
            default: return sum(2) + pick(random, "<", " = ", ">", " < ", " > ") + sum(2);
        }
    }

    private String rope() {
        int ringers = Math.max(1, m.look(0));
        int a = upTo(25) == 0 ? about(0, ringers - 1) : upTo(ringers);
        int b = upTo(25) == 0 ? a : (a + 1 + upTo(Math.max(1, ringers - 1))) % ringers;
        return "ringer " + Math.max(0, a) + blank() + " feels" + blank() + Math.max(0, b) + ";";
    }

    private String day() {
        String kind = pick(random, "wedding", "fire", "market", "death", "christening", "draught");
        int most = upTo(25) == 0 ? 120 : kind.equals("draught") ? 10 : 100;
        return "at " + upTo(upTo(25) == 0 ? 30 : 24) + " " + kind + " " + upTo(most) + blank() + ";";
    }

    private String change() {
        int set = 0;
        StringBuilder all = new StringBuilder("swap");
        for (int i = 0; i < 1 + upTo(5); i++) {
            int p = upTo(7);
            if ((set & 7 << p) == 0 || upTo(60) == 0) {
                set |= 2 << p;
                all.append(' ').append(p);
            }
        }
        return all + ";";
    }

    private String spoiled(String text) {
        StringBuilder all = new StringBuilder(text);
        for (int i = upTo(2); i >= 0 && all.length() > 0; i--) {
            int at = upTo(all.length());
            switch (upTo(4)) {
                case 0: all.deleteCharAt(at); break;
                case 1: all.insert(at, pick(random, "(", ")", "not ", ";", "9", "x", " ", "=", "/0", "X", "\u00e9", "\t", "\0", "and", ".")); break;
                case 2: all.setCharAt(at, (char) upTo(upTo(3) == 0 ? 256 : 128)); break;
                default: all.setLength(at); break;
            }
        }
        return all.length() > 400 ? all.substring(0, 400) : all.toString();
    }
}
