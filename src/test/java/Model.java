import java.util.ArrayList;
import java.util.HashMap;
import java.util.HashSet;
import java.util.List;
import java.util.Map;
import java.util.Set;
import java.util.TreeSet;

/** The document once more, written with lists and trees and by trying all, to be compared with. */
final class Model {
    static final int NONE = -1;

    /** A part of THE LAW. */
    interface Part {
        int of(Map<String, Integer> words);
    }

    static final class LawLine {
        String word;
        Part worth;
        Part when;
    }

    static final class Ringer {
        int bell;
        int feel;
        int arm;
        int hunger;
        int tired;
        boolean awake = true;

        Ringer copy() {
            Ringer r = new Ringer();
            r.bell = bell;
            r.feel = feel;
            r.arm = arm;
            r.hunger = hunger;
            r.tired = tired;
            r.awake = awake;
            return r;
        }
    }

    /** What changes; texts and lists are never changed in place, so that a shallow copy keeps them. */
    static final class World {
        int state;
        int folk;
        int draught;
        int sway;
        int hour;
        int[] heavy = {1, 1, 1, 1, 1, 1, 1, 1};
        int[] strokes = new int[8];
        List<Ringer> ringers = new ArrayList<>();
        List<int[]> book = new ArrayList<>();
        List<LawLine> law = List.of();
        List<int[]> ropes = List.of();
        List<int[]> days = List.of();
        List<int[]> changes = List.of();
        List<int[]> signs = new ArrayList<>();
        List<int[]> rounds = new ArrayList<>();
        List<int[]> sees = new ArrayList<>();
        List<Integer> pigeons = new ArrayList<>();
        List<int[]> couples = new ArrayList<>();
        int[][] holds = new int[10][8];
        int[] opinions = new int[10];

        World copy() {
            World w = new World();
            w.putMoving(this);
            w.law = law;
            w.ropes = ropes;
            w.days = days;
            w.changes = changes;
            w.signs = new ArrayList<>(signs);
            w.rounds = new ArrayList<>(rounds);
            w.sees = new ArrayList<>(sees);
            w.pigeons = new ArrayList<>(pigeons);
            w.couples = new ArrayList<>(couples);
            for (int r = 0; r < 10; r++) {
                w.holds[r] = holds[r].clone();
            }
            w.opinions = opinions.clone();
            return w;
        }

        void putMoving(World other) {
            state = other.state;
            folk = other.folk;
            draught = other.draught;
            sway = other.sway;
            hour = other.hour;
            heavy = other.heavy.clone();
            strokes = other.strokes.clone();
            ringers = new ArrayList<>();
            for (Ringer r : other.ringers) {
                ringers.add(r.copy());
            }
            book = new ArrayList<>(other.book);
        }
    }

    static final class Fault extends RuntimeException {
        private static final long serialVersionUID = 1L;
        final int what;
        final int place;

        Fault(int what, int place) {
            this.what = what;
            this.place = place;
        }
    }

    World w = new World();
    World image = null;
    List<World> past = new ArrayList<>();
    List<Integer> tape = new ArrayList<>();
    int faultWhat = 0;
    int faultPlace = NONE;

    static boolean in(int v, int a, int b) {
        return a <= v && v <= b;
    }

    Ringer who(int r) {
        return in(r, 0, w.ringers.size() - 1) ? w.ringers.get(r) : null;
    }

    int state(int v) {
        int was = w.state;
        w.state = v;
        past.clear();
        return was;
    }

    int ringer(int bell, int feel, int arm) {
        if (!in(bell, 0, 7) || !in(feel, 0, 9) || !in(arm, 0, 9) || w.ringers.size() == 10) {
            return NONE;
        }
        Ringer r = new Ringer();
        r.bell = bell;
        r.feel = feel;
        r.arm = arm;
        w.ringers.add(r);
        past.clear();
        return w.ringers.size() - 1;
    }

    boolean set(int what, int who, int v) {
        int[] least = {1, 0, 0, 0, 0, 0, 0};
        int[] most = {99, 99, 9, 9999, 7, 99, 98};
        if (!in(what, 0, 6) || !in(v, least[what], most[what]) || what == 0 && !in(who, 0, 7) || what > 3 && who(who) == null) {
            return false;
        }
        past.clear();
        switch (what) {
            case 0 -> w.heavy[who] = v;
            case 1 -> w.folk = v;
            case 2 -> w.draught = v;
            case 3 -> w.sway = v;
            case 4 -> who(who).bell = v;
            case 5 -> who(who).hunger = v;
            default -> who(who).tired = v;
        }
        return true;
    }

    void keep() {
        past.add(w.copy());
        if (past.size() > 6) {
            past.remove(0);
        }
    }

    void write(int what, int ringer, int many) {
        if (w.book.size() < 150) {
            w.book.add(new int[] {w.hour, what, ringer, many});
        }
    }

    int law(String word, int ringer, int felt) {
        Map<String, Integer> words = new HashMap<>();
        for (String s : List.of("feel", "arm", "hunger", "tired", "bell", "heavy", "felt")) {
            words.put(s, 0);
        }
        words.put("sway", w.sway);
        words.put("folk", w.folk);
        words.put("draught", w.draught);
        words.put("hour", w.hour % 24);
        Ringer r = who(ringer);
        if (r != null) {
            words.put("feel", r.feel);
            words.put("arm", r.arm);
            words.put("hunger", r.hunger);
            words.put("tired", r.tired);
            words.put("bell", r.bell);
            words.put("heavy", w.heavy[r.bell]);
            words.put("felt", felt);
        }
        int most = word.equals("pull") ? 1000 : word.equals("hard") ? 9 : 9999;
        int v = word.equals("lost") ? w.sway / 4 : word.equals("hard") ? 1 + r.arm / 3 : 100 + 9 * r.hunger + 5 * w.folk;
        for (LawLine line : w.law) {
            if (line.word.equals(word) && (line.when == null || line.when.of(words) == 1)) {
                v = line.worth.of(words);
                break;
            }
        }
        return v < 0 ? 0 : v > most ? most : v;
    }

    int strike(int ringer, int felt) {
        Ringer r = who(ringer);
        int hard = law("hard", ringer, felt);
        w.strokes[r.bell] += hard;
        w.sway = Math.min(9999, w.sway + hard * w.heavy[r.bell]);
        r.tired = Math.min(99, r.tired + hard);
        write(0, ringer, hard);
        if (r.tired == 99) {
            r.awake = false;
            write(2, ringer, w.strokes[r.bell]);
        }
        return hard;
    }

    int pull(int ringer) {
        if (who(ringer) == null || !who(ringer).awake) {
            return NONE;
        }
        keep();
        return strike(ringer, 0);
    }

    boolean act(int what, int ringer) {
        Ringer r = who(ringer);
        if (r == null || what < 0 || what > 2 || what == 1 && r.awake || what == 2 && !r.awake) {
            return false;
        }
        keep();
        if (what == 0) {
            write(1, ringer, r.hunger);
            r.hunger = 0;
        } else {
            r.awake = what == 1;
            r.tired = what == 1 ? 0 : r.tired;
        }
        return true;
    }

    int hour(boolean draws) {
        for (int[] d : w.days) {
            if (d[0] == w.hour % 24) {
                int folk = d[1] == 0 || d[1] == 2 ? w.folk + d[2] : d[1] == 1 || d[1] == 3 ? w.folk - d[2] : d[1] == 4 ? d[2] : w.folk;
                w.folk = Math.max(0, Math.min(99, folk));
                w.draught = d[1] == 5 ? d[2] : w.draught;
            }
        }
        Set<Integer> pulled = new HashSet<>();
        for (int r = 0; r < w.ringers.size(); r++) {
            if (!w.ringers.get(r).awake) {
                continue;
            }
            Set<Integer> felt = new HashSet<>();
            for (int[] rope : w.ropes) {
                if (rope[0] == r && pulled.contains(rope[1])) {
                    felt.add(rope[1]);
                }
            }
            int pull = law("pull", r, felt.size());
            boolean pulls = pull >= 500;
            if (draws) {
                w.state = (int) (w.state * 1664525L + 1013904223L);
                pulls = ((w.state & 0xffffffffL) >> 8) % 1000 < pull;
            }
            if (pulls) {
                strike(r, felt.size());
                pulled.add(r);
            }
        }
        w.sway = Math.max(0, w.sway - law("lost", NONE, 0));
        for (int i = 0; i < w.ringers.size(); i++) {
            Ringer r = w.ringers.get(i);
            r.hunger = Math.min(99, r.hunger + 1);
            if (!r.awake) {
                r.tired = Math.max(0, r.tired - 9);
                if (r.tired == 0) {
                    r.awake = true;
                    write(3, i, 0);
                }
            }
        }
        w.folk = w.folk - w.folk / 10;
        w.hour++;
        return pulled.size();
    }

    int hours(int n) {
        if (!in(n, 1, 60) || w.hour + n > 9999) {
            return NONE;
        }
        int pulls = 0;
        for (int i = 0; i < n; i++) {
            keep();
            pulls += hour(true);
        }
        return pulls;
    }

    int feed(int a, int b, int c, int d, int e) {
        if (tape.size() > 380) {
            return NONE;
        }
        for (int v : new int[] {a, b, c, d, e}) {
            for (int i = 3; i >= 0; i--) {
                tape.add(v >> 8 * i & 255);
            }
        }
        return tape.size();
    }

    boolean end(int n) {
        if (!in(n, 0, tape.size())) {
            return false;
        }
        tape = new ArrayList<>(tape.subList(0, n));
        return true;
    }

    // ---- reading: tokens are taken from the bytes as they are wanted

    private String text;
    private int at;
    private int open;

    private String peek() {
        while (at < text.length() && (text.charAt(at) == 32 || text.charAt(at) == 10)) {
            at++;
        }
        String rest = text.substring(at);
        if (rest.isEmpty()) {
            return "";
        }
        java.util.regex.Matcher m = java.util.regex.Pattern.compile("^([A-Za-z]+|[0-9]+)").matcher(rest);
        return m.find() ? m.group() : rest.substring(0, 1);
    }

    private boolean nextIs(String... words) {
        return List.of(words).contains(peek());
    }

    private String take(String... words) {
        String t = peek();
        if (!List.of(words).contains(t)) {
            throw new Fault(1, at);
        }
        at += t.length();
        return t;
    }

    private int number(int most) {
        String t = peek();
        if (!t.matches("[0-9]{1,4}")) {
            throw new Fault(1, at);
        }
        int v = Integer.parseInt(t);
        if (v > most) {
            throw new Fault(2, at);
        }
        at += t.length();
        return v;
    }

    private Part unit() {
        if (peek().matches("[0-9]+")) {
            int v = number(9999);
            return words -> v;
        }
        String word = take("feel", "arm", "hunger", "tired", "bell", "heavy", "sway", "folk", "draught", "hour", "felt");
        return words -> words.get(word);
    }

    private Part term() {
        Part all = unit();
        while (nextIs("*", "/")) {
            Part left = all;
            if (take("*", "/").equals("*")) {
                Part right = unit();
                all = words -> left.of(words) * right.of(words);
            } else {
                peek();
                int place = at;
                int v = number(9999);
                if (v == 0) {
                    throw new Fault(2, place);
                }
                all = words -> left.of(words) / v;
            }
        }
        return all;
    }

    private Part sum() {
        Part all = term();
        while (nextIs("+", "-")) {
            Part left = all;
            boolean plus = take("+", "-").equals("+");
            Part right = term();
            all = words -> plus ? left.of(words) + right.of(words) : left.of(words) - right.of(words);
        }
        return all;
    }

    private Part condition() {
        if (nextIs("not", "(")) {
            if (open == 8) {
                throw new Fault(3, at);
            }
            open++;
            boolean not = take("not", "(").equals("not");
            Part inner = not ? condition() : either();
            if (!not) {
                take(")");
            }
            open--;
            return words -> not ? 1 - inner.of(words) : inner.of(words);
        }
        Part left = sum();
        String sign = take("<", "=", ">");
        Part right = sum();
        return words -> {
            int c = Integer.compare(left.of(words), right.of(words));
            return (sign.equals("<") ? c < 0 : sign.equals("=") ? c == 0 : c > 0) ? 1 : 0;
        };
    }

    private Part both() {
        Part all = condition();
        while (nextIs("and")) {
            take("and");
            Part left = all;
            Part right = condition();
            all = words -> Math.min(left.of(words), right.of(words));
        }
        return all;
    }

    private Part either() {
        Part all = both();
        while (nextIs("or")) {
            take("or");
            Part left = all;
            Part right = both();
            all = words -> Math.max(left.of(words), right.of(words));
        }
        return all;
    }

    private LawLine lawLine(String word) {
        LawLine line = new LawLine();
        line.word = word;
        line.worth = sum();
        if (nextIs("when")) {
            take("when");
            open = 0;
            line.when = either();
        }
        return line;
    }

    private int[] rope() {
        int a = number(w.ringers.size() - 1);
        take("feels");
        peek();
        int place = at;
        int b = number(w.ringers.size() - 1);
        if (a == b) {
            throw new Fault(2, place);
        }
        return new int[] {a, b};
    }

    private int[] day() {
        int hour = number(23);
        List<String> kinds = List.of("wedding", "fire", "market", "death", "christening", "draught");
        int kind = kinds.indexOf(take(kinds.toArray(new String[0])));
        return new int[] {hour, kind, number(kind == 5 ? 9 : 99)};
    }

    private int[] change() {
        List<Integer> places = new ArrayList<>();
        do {
            peek();
            int place = at;
            int v = number(6);
            for (int p : places) {
                if (Math.abs(p - v) < 2) {
                    throw new Fault(2, place);
                }
            }
            places.add(v);
        } while (peek().matches("[0-9]{1,4}"));
        return places.stream().mapToInt(i -> i).toArray();
    }

    int text(int k) {
        StringBuilder all = new StringBuilder();
        for (int c : tape) {
            all.append((char) c);
        }
        tape.clear();
        text = all.toString();
        at = 0;
        faultWhat = 0;
        faultPlace = NONE;
        if (!in(k, 0, 3)) {
            return NONE;
        }
        String[][] starts = {{"pull", "hard", "lost"}, {"ringer"}, {"at"}, {"swap"}};
        List<LawLine> law = new ArrayList<>();
        List<int[]> rows = new ArrayList<>();
        int lines = 0;
        try {
            while (!nextIs("")) {
                if (nextIs(starts[k]) && lines == 16) {
                    throw new Fault(3, at);
                }
                String word = take(starts[k]);
                if (k == 0) {
                    law.add(lawLine(word));
                } else {
                    rows.add(k == 1 ? rope() : k == 2 ? day() : change());
                }
                take(";");
                lines++;
            }
        } catch (Fault f) {
            faultWhat = f.what;
            faultPlace = f.place;
            return NONE;
        }
        if (k == 0) {
            w.law = law;
        } else if (k == 1) {
            w.ropes = rows;
        } else if (k == 2) {
            w.days = rows;
            past.clear();
        } else {
            w.changes = rows;
        }
        return lines;
    }

    int fault(int what) {
        return what == 0 ? faultWhat : what == 1 ? faultPlace : NONE;
    }

    int of(int ringer, int what) {
        Ringer r = who(ringer);
        if (r == null || !in(what, 0, 8)) {
            return NONE;
        }
        int feels = 0;
        for (int[] rope : w.ropes) {
            feels |= rope[0] == ringer ? 1 << rope[1] : 0;
        }
        int[] all = {r.bell, r.feel, r.arm, r.hunger, r.tired, r.awake ? 1 : 0, feels, law("pull", ringer, 0), law("hard", ringer, 0)};
        return all[what];
    }

    int bell(int bell, int what) {
        return !in(bell, 0, 7) || !in(what, 0, 1) ? NONE : what == 0 ? w.heavy[bell] : w.strokes[bell];
    }

    int lost() {
        return law("lost", NONE, 0);
    }

    int book(int i, int what) {
        return in(i, 0, w.book.size() - 1) && in(what, 0, 3) ? w.book.get(i)[what] : NONE;
    }

    int goes(int n, int what) {
        if (!in(n, 1, 60) || !in(what, 0, 3)) {
            return NONE;
        }
        World real = w;
        w = w.copy();
        for (int i = 0; i < n; i++) {
            hour(false);
        }
        int awake = 0;
        int strokes = 0;
        for (Ringer r : w.ringers) {
            awake += r.awake ? 1 : 0;
        }
        for (int s : w.strokes) {
            strokes += s;
        }
        int[] all = {w.sway, strokes, w.folk, awake};
        w = real;
        return all[what];
    }

    private List<Integer> rowAt(int n, int i) {
        List<Integer> row = new ArrayList<>();
        for (int b = 0; b < n; b++) {
            row.add(b);
        }
        for (int k = 0; k < i; k++) {
            for (int p : w.changes.get(k % w.changes.size())) {
                if (p <= n - 2) {
                    java.util.Collections.swap(row, p, p + 1);
                }
            }
        }
        return row;
    }

    int peal(int n, int what) {
        if (!in(n, 2, 8) || !in(what, 0, 1)) {
            return NONE;
        }
        if (w.changes.isEmpty()) {
            return what == 0 ? NONE : 1;
        }
        Set<List<Integer>> seen = new HashSet<>();
        for (int i = 0; i <= 9999; i++) {
            List<Integer> row = rowAt(n, i);
            if (what == 0 && i > 0 && row.equals(rowAt(n, 0)) || what == 1 && !seen.add(row)) {
                return i;
            }
        }
        return NONE;
    }

    int row(int n, int i, int place) {
        if (!in(n, 2, 8) || !in(i, 0, 999) || !in(place, 0, n - 1) || i > 0 && w.changes.isEmpty()) {
            return NONE;
        }
        return rowAt(n, i).get(place);
    }

    private static int tell(List<int[]> list, boolean clear, boolean can, int most, int a, int b) {
        if (clear) {
            list.clear();
            return 0;
        }
        if (!can || list.size() == most) {
            return NONE;
        }
        list.add(new int[] {a, b});
        return list.size();
    }

    int sign(int strokes, int meant) {
        return tell(w.signs, strokes == NONE, in(strokes, 0, 65535) && in(meant, 0, 99), 10, strokes, meant);
    }

    private static int unlike(int a, int b) {
        int many = 0;
        for (int i = 0; i < 16; i++) {
            many += (a >> i & 1) != (b >> i & 1) ? 1 : 0;
        }
        return many;
    }

    int meant(int strokes, int what) {
        if (what == 2 || what == 3) {
            TreeSet<Integer> all = new TreeSet<>();
            for (int i = 0; i < w.signs.size(); i++) {
                for (int j = i + 1; j < w.signs.size(); j++) {
                    all.add(unlike(w.signs.get(i)[0], w.signs.get(j)[0]));
                }
            }
            if (all.isEmpty()) {
                return NONE;
            }
            return what == 2 ? all.first() : all.first() == 0 ? 0 : (all.first() - 1) / 2;
        }
        if (!in(strokes, 0, 65535) || !in(what, 0, 1)) {
            return NONE;
        }
        for (int many = 0; many <= 16; many++) {
            for (int[] s : w.signs) {
                if (unlike(s[0], strokes) == many) {
                    return what == 0 ? s[1] : many;
                }
            }
        }
        return NONE;
    }

    int round(int hours, int first) {
        return tell(w.rounds, hours == NONE, in(hours, 1, 12) && in(first, 0, 11) && first < hours, 6, hours, first);
    }

    private int ring(int hour) {
        int many = 0;
        for (int[] r : w.rounds) {
            many += hour % r[0] == r[1] ? 1 : 0;
        }
        return many;
    }

    int together(int hour) {
        if (hour != NONE) {
            return in(hour, 0, 9999) ? ring(hour) : NONE;
        }
        for (int h = 0; h <= 27719 && !w.rounds.isEmpty(); h++) {
            if (ring(h) == w.rounds.size()) {
                return h;
            }
        }
        return NONE;
    }

    boolean hold(int ringer, int bell, int v) {
        if (!in(ringer, 0, 9) || !in(bell, 0, 7) || !in(v, 0, 99)) {
            return false;
        }
        w.holds[ringer][bell] = v;
        return true;
    }

    private int bestLeast;
    private int[] bestWay;

    private void tryHolds(int[] way, int r, int least) {
        if (r == w.ringers.size()) {
            if (least > bestLeast) {
                bestLeast = least;
                bestWay = way.clone();
            }
            return;
        }
        for (int b = 0; b < 8; b++) {
            boolean free = true;
            for (int q = 0; q < r; q++) {
                free &= way[q] != b;
            }
            int next = Math.min(least, w.holds[r][b]);
            if (free && next > bestLeast) {
                way[r] = b;
                tryHolds(way, r + 1, next);
            }
        }
    }

    int holds(int what) {
        int n = w.ringers.size();
        if (n == 0 || n > 8 || what != 0 && !in(what, 10, 9 + n)) {
            return NONE;
        }
        bestLeast = -1;
        tryHolds(new int[n], 0, 99);
        return what == 0 ? bestLeast : bestWay[what - 10];
    }

    int see(int a, int b) {
        return tell(w.sees, a == NONE, in(a, 0, 11) && in(b, 0, 11) && a != b, 16, a, b);
    }

    private void paths(List<Integer> path, int b, List<Integer> lengths) {
        int last = path.get(path.size() - 1);
        if (last == b) {
            lengths.add(path.size() - 2);
            return;
        }
        Set<Integer> next = new HashSet<>();
        for (int[] s : w.sees) {
            if (s[0] == last) {
                next.add(s[1]);
            }
        }
        for (int q : next) {
            if (!path.contains(q)) {
                path.add(q);
                paths(path, b, lengths);
                path.remove(path.size() - 1);
            }
        }
    }

    int waves(int a, int b, int what) {
        if (!in(a, 0, 11) || !in(b, 0, 11) || a == b || !in(what, 0, 1)) {
            return NONE;
        }
        List<Integer> lengths = new ArrayList<>();
        paths(new ArrayList<>(List.of(a)), b, lengths);
        if (lengths.isEmpty()) {
            return NONE;
        }
        int least = java.util.Collections.min(lengths);
        return what == 0 ? least : java.util.Collections.frequency(lengths, least);
    }

    int bears(int most, int what) {
        if (!in(most, 1, 800) || !in(what, 0, 2)) {
            return NONE;
        }
        for (int many = 8; many >= 0; many--) {
            int ways = 0;
            int greatest = 0;
            for (int set = 0; set < 256; set++) {
                int sum = 0;
                for (int b = 0; b < 8; b++) {
                    sum += (set >> b & 1) * w.heavy[b];
                }
                if (Integer.bitCount(set) == many && sum <= most) {
                    ways++;
                    greatest = Math.max(greatest, sum);
                }
            }
            if (ways > 0) {
                return what == 0 ? many : what == 1 ? ways : greatest;
            }
        }
        return NONE;
    }

    int pigeon(int v) {
        if (v == NONE) {
            w.pigeons.clear();
            return 0;
        }
        if (!in(v, 0, 99) || w.pigeons.size() == 24) {
            return NONE;
        }
        w.pigeons.add(v);
        return w.pigeons.size();
    }

    int best(int n, int what) {
        int all = w.pigeons.size();
        if (!in(n, 1, 24) || n > all || !in(what, 0, 1)) {
            return NONE;
        }
        List<Integer> twice = new ArrayList<>(w.pigeons);
        twice.addAll(w.pigeons);
        List<Integer> sums = new ArrayList<>();
        for (int i = 0; i < all; i++) {
            sums.add(twice.subList(i, i + n).stream().mapToInt(v -> v).sum());
        }
        int greatest = java.util.Collections.max(sums);
        return what == 0 ? greatest : sums.indexOf(greatest);
    }

    int stranger(int a, int b) {
        return tell(w.couples, a == NONE, in(a, 0, 9) && in(b, 0, 9) && a != b, 20, a, b);
    }

    private int[][] distances(int without) {
        int[][] d = new int[10][10];
        for (int i = 0; i < 10; i++) {
            for (int j = 0; j < 10; j++) {
                d[i][j] = i == j ? 0 : 1000;
            }
        }
        for (int[] c : w.couples) {
            if (c[0] != without && c[1] != without) {
                d[c[0]][c[1]] = 1;
                d[c[1]][c[0]] = 1;
            }
        }
        for (int k = 0; k < 10; k++) {
            for (int i = 0; i < 10; i++) {
                for (int j = 0; j < 10; j++) {
                    d[i][j] = Math.min(d[i][j], d[i][k] + d[k][j]);
                }
            }
        }
        return d;
    }

    int heard(int from, int what) {
        int[][] d = distances(NONE);
        if (what == 2) {
            int set = 0;
            for (int p = 0; p < 10; p++) {
                int[][] without = distances(p);
                for (int i = 0; i < 10; i++) {
                    for (int j = 0; j < 10; j++) {
                        if (i != p && j != p && d[i][j] < 1000 && without[i][j] >= 1000) {
                            set |= 1 << p;
                        }
                    }
                }
            }
            return set;
        }
        if (!in(from, 0, 9) || !in(what, 0, 1)) {
            return NONE;
        }
        int rounds = 0;
        int many = 0;
        for (int j = 0; j < 10; j++) {
            if (d[from][j] < 1000) {
                rounds = Math.max(rounds, d[from][j]);
                many++;
            }
        }
        return what == 0 ? rounds : many;
    }

    private int hungerAndArm(int r) {
        return who(r).hunger + who(r).arm;
    }

    int feeds(int what) {
        int n = w.ringers.size();
        if (what != 0 && !in(what, 10, 9 + n)) {
            return NONE;
        }
        List<Integer> order = new ArrayList<>();
        for (int r = 0; r < n; r++) {
            order.add(r);
        }
        order.sort((a, b) -> hungerAndArm(b) - hungerAndArm(a));
        int sum = 0;
        for (int i = 0; i < n; i++) {
            sum += hungerAndArm(order.get(i)) * (i + 1);
        }
        return what == 0 ? sum : order.get(what - 10);
    }

    int casts(int what) {
        if (!in(what, 0, 1)) {
            return NONE;
        }
        for (int many = 0; many <= 8; many++) {
            for (int set = 0; set < 256; set++) {
                boolean good = Integer.bitCount(set) == many;
                for (int i = 0; i < 8 && good; i++) {
                    for (int j = 0; j < 8; j++) {
                        boolean left = (set >> i & 1) == 0 && (set >> j & 1) == 0;
                        good &= !(left && w.heavy[i] > w.heavy[j] && w.heavy[i] < 2 * w.heavy[j]);
                    }
                }
                if (good) {
                    return what == 0 ? many : set;
                }
            }
        }
        return NONE;
    }

    boolean opinion(int ringer, int v) {
        if (!in(ringer, 0, 9) || !in(v, -9, 9)) {
            return false;
        }
        w.opinions[ringer] = v;
        return true;
    }

    private int opinionOf(int set) {
        int sum = 0;
        for (int r = 0; r < 10; r++) {
            sum += (set >> r & 1) * w.opinions[r];
        }
        return sum;
    }

    int peals(int what) {
        int awake = look(5);
        if (what == 0) {
            return opinionOf(awake);
        }
        if (what != 1 && who(what - 10) == null) {
            return -100;
        }
        int many = 0;
        for (int set = 0; set < 1024; set++) {
            if ((set & ~awake) == 0 && opinionOf(set) > 0) {
                many += what == 1 || opinionOf(set & ~(1 << what - 10)) <= 0 ? 1 : 0;
            }
        }
        return many;
    }

    private static int nimber(int h) {
        Set<Integer> next = new HashSet<>();
        if (h > 0) {
            next.add(NIMBERS.computeIfAbsent(h - 1, k -> -1) == -1 ? put(h - 1) : NIMBERS.get(h - 1));
            int half = h - (h + 1) / 2;
            next.add(NIMBERS.computeIfAbsent(half, k -> -1) == -1 ? put(half) : NIMBERS.get(half));
        }
        int v = 0;
        while (next.contains(v)) {
            v++;
        }
        return v;
    }

    private static final Map<Integer, Integer> NIMBERS = new HashMap<>();

    private static int put(int h) {
        NIMBERS.put(h, nimber(h));
        return NIMBERS.get(h);
    }

    int game(int what) {
        for (int r = 0; r < w.ringers.size() && in(what, 0, 1); r++) {
            int h = who(r).tired;
            for (int many = 1; many <= h; many++) {
                if (many == 1 || many == (h + 1) / 2) {
                    int all = nimber(h - many);
                    for (int q = 0; q < w.ringers.size(); q++) {
                        all ^= q == r ? 0 : nimber(who(q).tired);
                    }
                    if (all == 0) {
                        return what == 0 ? r : many;
                    }
                }
            }
        }
        return NONE;
    }

    boolean undo() {
        if (past.isEmpty()) {
            return false;
        }
        w.putMoving(past.remove(past.size() - 1));
        return true;
    }

    boolean image(boolean taken) {
        if (taken) {
            image = w.copy();
            return true;
        }
        if (image == null) {
            return false;
        }
        w = image.copy();
        past.clear();
        return true;
    }

    int look(int what) {
        int awake = 0;
        for (int r = 0; r < w.ringers.size(); r++) {
            awake |= who(r).awake ? 1 << r : 0;
        }
        int[] all = {w.ringers.size(), w.hour, w.folk, w.draught, w.sway, awake, w.book.size(), w.state,
            w.law.size(), w.ropes.size(), w.days.size(), w.changes.size(), past.size()};
        return in(what, 0, 12) ? all[what] : NONE;
    }
}
