import java.util.Arrays;

/** Bells rung by the deaf; the document ../shared/DOC.md says what each call promises. */
public final class DeafBells {
    public static final int NONE = -1;

    private static final int BELLS = 8;
    private static final int RINGERS = 10;
    private static final int PEOPLE = 12;
    private static final int STRANGERS = 10;
    private static final int UNDOABLE = 6;
    private static final int MOST_NUMBER = 99;
    private static final int MOST_SWAY = 9999;
    private static final int MOST_HOUR = 9999;
    private static final int MOST_HOURS = 60;
    private static final int BOOK_LINES = 150;
    private static final int TEXT_LINES = 16;
    private static final int TAPE_BYTES = 400;
    private static final int DAY = 24;

    private static final int LAW = 0;
    private static final int ROPES = 1;
    private static final int DAYS = 2;
    private static final int CHANGES = 3;

    private static final int PULL = 0;
    private static final int HARD = 1;
    private static final int LOST = 2;

    private final World world = new World();
    private final Past past = new Past();
    private final Reader reader = new Reader();
    private final Ringing ringing = new Ringing(world.tower, world.book, world.texts);
    // A book without a line lets the same hours be thought that are rung.
    private final Ringing inThought = new Ringing(new Tower(), new Book(0), world.texts);
    private final Puzzles puzzles = new Puzzles(world.tower, world.texts, world.told);
    private World kept = null;

    public DeafBells() {
    }

    public int state(int v) {
        int before = world.tower.state;
        world.tower.state = v;
        past.forget();
        return before;
    }

    public int ringer(int bell, int feel, int arm) {
        if (!within(bell, 0, BELLS - 1) || !within(feel, 0, 9) || !within(arm, 0, 9)) {
            return NONE;
        }
        int number = world.tower.come(bell, feel, arm);
        if (number != NONE) {
            past.forget();
        }
        return number;
    }

    public boolean set(int what, int who, int v) {
        boolean told = what < 4 ? toldOfTower(what, who, v) : toldOfRinger(what, who, v);
        if (told) {
            past.forget();
        }
        return told;
    }

    private boolean toldOfTower(int what, int who, int v) {
        Tower tower = world.tower;
        if (what == 0 && within(who, 0, BELLS - 1) && within(v, 1, MOST_NUMBER)) {
            tower.heavy[who] = v;
            return true;
        }
        if (what == 1 && within(v, 0, MOST_NUMBER)) {
            tower.folk = v;
            return true;
        }
        if (what == 2 && within(v, 0, 9)) {
            tower.draught = v;
            return true;
        }
        if (what == 3 && within(v, 0, MOST_SWAY)) {
            tower.sway = v;
            return true;
        }
        return false;
    }

    private boolean toldOfRinger(int what, int who, int v) {
        Tower tower = world.tower;
        if (!tower.has(who)) {
            return false;
        }
        if (what == 4 && within(v, 0, BELLS - 1)) {
            tower.bellOf[who] = v;
            return true;
        }
        if (what == 5 && within(v, 0, MOST_NUMBER)) {
            tower.hunger[who] = v;
            return true;
        }
        if (what == 6 && within(v, 0, MOST_NUMBER - 1)) {
            tower.tired[who] = v;
            return true;
        }
        return false;
    }

    public int pull(int ringer) {
        if (!world.tower.isAwake(ringer)) {
            return NONE;
        }
        past.keep(world.tower, world.book);
        return ringing.strike(ringer, 0);
    }

    public boolean act(int what, int ringer) {
        Tower tower = world.tower;
        if (!tower.has(ringer) || !within(what, 0, 2)) {
            return false;
        }
        if (what == 1 && tower.isAwake(ringer) || what == 2 && !tower.isAwake(ringer)) {
            return false;
        }
        past.keep(tower, world.book);
        if (what == 0) {
            world.book.write(tower.hour, Book.FED, ringer, tower.hunger[ringer]);
            tower.hunger[ringer] = 0;
        } else if (what == 1) {
            tower.wake(ringer);
            tower.tired[ringer] = 0;
        } else {
            tower.sleep(ringer);
        }
        return true;
    }

    public int hours(int n) {
        if (!within(n, 1, MOST_HOURS) || world.tower.hour + n > MOST_HOUR) {
            return NONE;
        }
        int pulls = 0;
        for (int i = 0; i < n; i++) {
            past.keep(world.tower, world.book);
            pulls += ringing.pass(true);
        }
        return pulls;
    }

    public int feed(int a, int b, int c, int d, int e) {
        if (reader.length + 20 > TAPE_BYTES) {
            return NONE;
        }
        reader.append(a);
        reader.append(b);
        reader.append(c);
        reader.append(d);
        reader.append(e);
        return reader.length;
    }

    public boolean end(int n) {
        if (!within(n, 0, reader.length)) {
            return false;
        }
        reader.length = n;
        return true;
    }

    public int text(int k) {
        int lines = reader.read(k, world.tower.ringers);
        if (lines == NONE) {
            return NONE;
        }
        world.texts.becomeOne(k, reader.draft);
        if (k == DAYS) {
            past.forget();
        }
        return lines;
    }

    public int fault(int what) {
        switch (what) {
            case 0: return reader.fault;
            case 1: return reader.place;
            default: return NONE;
        }
    }

    public int of(int ringer, int what) {
        Tower tower = world.tower;
        if (!tower.has(ringer)) {
            return NONE;
        }
        switch (what) {
            case 0: return tower.bellOf[ringer];
            case 1: return tower.feel[ringer];
            case 2: return tower.arm[ringer];
            case 3: return tower.hunger[ringer];
            case 4: return tower.tired[ringer];
            case 5: return tower.isAwake(ringer) ? 1 : 0;
            case 6: return world.texts.feltBy(ringer);
            case 7: return ringing.ask(PULL, ringer, 0);
            case 8: return ringing.ask(HARD, ringer, 0);
            default: return NONE;
        }
    }

    public int bell(int bell, int what) {
        if (!within(bell, 0, BELLS - 1)) {
            return NONE;
        }
        switch (what) {
            case 0: return world.tower.heavy[bell];
            case 1: return world.tower.strokes[bell];
            default: return NONE;
        }
    }

    public int lost() {
        return ringing.ask(LOST, NONE, 0);
    }

    public int book(int i, int what) {
        if (!within(i, 0, world.book.lines - 1) || !within(what, 0, 3)) {
            return NONE;
        }
        return world.book.cell(i, what);
    }

    public int goes(int n, int what) {
        if (!within(n, 1, MOST_HOURS) || !within(what, 0, 3)) {
            return NONE;
        }
        Tower thought = inThought.tower;
        thought.become(world.tower);
        for (int i = 0; i < n; i++) {
            inThought.pass(false);
        }
        switch (what) {
            case 0: return thought.sway;
            case 1: return thought.allStrokes();
            case 2: return thought.folk;
            default: return Integer.bitCount(thought.awake);
        }
    }

    public int peal(int n, int what) {
        if (!within(n, 2, BELLS)) {
            return NONE;
        }
        switch (what) {
            case 0: return puzzles.rowsToRounds(n);
            case 1: return puzzles.rowsToRepeat(n);
            default: return NONE;
        }
    }

    public int row(int n, int i, int place) {
        if (!within(n, 2, BELLS) || !within(i, 0, 999) || !within(place, 0, n - 1)) {
            return NONE;
        }
        return puzzles.bellAt(n, i, place);
    }

    public int sign(int strokes, int meant) {
        Rows signs = world.told.signs;
        if (strokes == NONE) {
            return signs.empty();
        }
        if (!within(strokes, 0, 65535) || !within(meant, 0, MOST_NUMBER)) {
            return NONE;
        }
        return signs.add(strokes, meant, 0);
    }

    public int meant(int strokes, int what) {
        if (what == 2) {
            return puzzles.apart();
        }
        if (what == 3) {
            return puzzles.canGoWrong();
        }
        if (!within(strokes, 0, 65535) || !within(what, 0, 1)) {
            return NONE;
        }
        return puzzles.nearestSign(strokes, what);
    }

    public int round(int hours, int first) {
        Rows rounds = world.told.rounds;
        if (hours == NONE) {
            return rounds.empty();
        }
        if (!within(hours, 1, 12) || !within(first, 0, hours - 1)) {
            return NONE;
        }
        return rounds.add(hours, first, 0);
    }

    public int together(int hour) {
        if (hour == NONE) {
            return puzzles.firstTogether();
        }
        return within(hour, 0, 9999) ? puzzles.ringAt(hour) : NONE;
    }

    public boolean hold(int ringer, int bell, int v) {
        if (!within(ringer, 0, RINGERS - 1) || !within(bell, 0, BELLS - 1) || !within(v, 0, MOST_NUMBER)) {
            return false;
        }
        world.told.holds[ringer * BELLS + bell] = v;
        return true;
    }

    public int holds(int what) {
        int ringers = world.tower.ringers;
        if (!within(ringers, 1, BELLS)) {
            return NONE;
        }
        if (what == 0) {
            return puzzles.weakestHold();
        }
        return within(what, 10, 9 + ringers) ? puzzles.heldBy(what - 10) : NONE;
    }

    public int see(int a, int b) {
        Rows sees = world.told.sees;
        if (a == NONE) {
            return sees.empty();
        }
        if (!within(a, 0, PEOPLE - 1) || !within(b, 0, PEOPLE - 1) || a == b) {
            return NONE;
        }
        return sees.add(a, b, 0);
    }

    public int waves(int a, int b, int what) {
        if (!within(a, 0, PEOPLE - 1) || !within(b, 0, PEOPLE - 1) || a == b) {
            return NONE;
        }
        return within(what, 0, 1) ? puzzles.wavesBetween(a, b, what) : NONE;
    }

    public int bears(int w, int what) {
        return within(w, 1, 800) && within(what, 0, 2) ? puzzles.borne(w, what) : NONE;
    }

    public int pigeon(int v) {
        Rows pigeons = world.told.pigeons;
        if (v == NONE) {
            return pigeons.empty();
        }
        return within(v, 0, MOST_NUMBER) ? pigeons.add(v, 0, 0) : NONE;
    }

    public int best(int n, int what) {
        boolean can = within(n, 1, world.told.pigeons.count) && within(what, 0, 1);
        return can ? puzzles.bestHours(n, what) : NONE;
    }

    public int stranger(int a, int b) {
        Rows couples = world.told.couples;
        if (a == NONE) {
            return couples.empty();
        }
        if (!within(a, 0, STRANGERS - 1) || !within(b, 0, STRANGERS - 1) || a == b) {
            return NONE;
        }
        return couples.add(a, b, 0);
    }

    public int heard(int from, int what) {
        if (what == 2) {
            return puzzles.splits();
        }
        if (!within(from, 0, STRANGERS - 1) || !within(what, 0, 1)) {
            return NONE;
        }
        return puzzles.news(from, what);
    }

    public int feeds(int what) {
        if (what == 0) {
            return puzzles.feedingSum();
        }
        return within(what, 10, 9 + world.tower.ringers) ? puzzles.fedAt(what - 10) : NONE;
    }

    public int casts(int what) {
        return within(what, 0, 1) ? puzzles.castAnew(what) : NONE;
    }

    public boolean opinion(int ringer, int v) {
        if (!within(ringer, 0, RINGERS - 1) || !within(v, -9, 9)) {
            return false;
        }
        world.told.opinions[ringer] = v;
        return true;
    }

    public int peals(int what) {
        if (what == 0) {
            return puzzles.opinionOfAwake();
        }
        if (what == 1) {
            return puzzles.swings();
        }
        return within(what, 10, 9 + world.tower.ringers) ? puzzles.turns(what - 10) : NONE - 99;
    }

    public int game(int what) {
        return within(what, 0, 1) ? puzzles.goodMove(what) : NONE;
    }

    public boolean undo() {
        return past.goBack(world.tower, world.book);
    }

    public boolean image(boolean taken) {
        if (taken) {
            if (kept == null) {
                kept = new World();
            }
            kept.become(world);
            return true;
        }
        if (kept == null) {
            return false;
        }
        world.become(kept);
        past.forget();
        return true;
    }

    public int look(int what) {
        Tower tower = world.tower;
        Texts texts = world.texts;
        switch (what) {
            case 0: return tower.ringers;
            case 1: return tower.hour;
            case 2: return tower.folk;
            case 3: return tower.draught;
            case 4: return tower.sway;
            case 5: return tower.awake;
            case 6: return world.book.lines;
            case 7: return tower.state;
            case 8: return texts.law.lines;
            case 9: return texts.ropes.count;
            case 10: return texts.days.count;
            case 11: return texts.changes.count;
            case 12: return past.count;
            default: return NONE;
        }
    }

    private static boolean within(int v, int least, int most) {
        return v >= least && v <= most;
    }

    private static int held(int v, int least, int most) {
        return Math.max(least, Math.min(most, v));
    }

    private static boolean isIn(int set, int member) {
        return (set >> member & 1) == 1;
    }

    private static void copy(int[] from, int[] to) {
        System.arraycopy(from, 0, to, 0, Math.min(from.length, to.length));
    }

    /** All that THE IMAGE keeps. */
    private static final class World {
        final Tower tower = new Tower();
        final Book book = new Book(BOOK_LINES);
        final Texts texts = new Texts();
        final Told told = new Told();

        void become(World other) {
            tower.become(other.tower);
            book.become(other.book);
            texts.become(other.texts);
            told.become(other.told);
        }
    }

    /** What hours and hands change; UNDO keeps copies of it. */
    private static final class Tower {
        int state = 0;
        int folk = 0;
        int draught = 0;
        int sway = 0;
        int hour = 0;
        int ringers = 0;
        int awake = 0;
        final int[] heavy = new int[BELLS];
        final int[] strokes = new int[BELLS];
        final int[] bellOf = new int[RINGERS];
        final int[] feel = new int[RINGERS];
        final int[] arm = new int[RINGERS];
        final int[] hunger = new int[RINGERS];
        final int[] tired = new int[RINGERS];

        Tower() {
            Arrays.fill(heavy, 1);
        }

        void become(Tower other) {
            state = other.state;
            folk = other.folk;
            draught = other.draught;
            sway = other.sway;
            hour = other.hour;
            ringers = other.ringers;
            awake = other.awake;
            copy(other.heavy, heavy);
            copy(other.strokes, strokes);
            copy(other.bellOf, bellOf);
            copy(other.feel, feel);
            copy(other.arm, arm);
            copy(other.hunger, hunger);
            copy(other.tired, tired);
        }

        int come(int itsBell, int itsFeel, int itsArm) {
            if (ringers >= RINGERS) {
                return NONE;
            }
            int number = ringers;
            bellOf[number] = itsBell;
            feel[number] = itsFeel;
            arm[number] = itsArm;
            hunger[number] = 0;
            tired[number] = 0;
            wake(number);
            ringers++;
            return number;
        }

        boolean has(int r) {
            return r >= 0 && r < ringers && r < RINGERS;
        }

        boolean isAwake(int r) {
            return has(r) && isIn(awake, r);
        }

        void wake(int r) {
            awake |= 1 << r;
        }

        void sleep(int r) {
            awake &= ~(1 << r);
        }

        int draw(int m) {
            state = state * 1664525 + 1013904223;
            return m > 0 ? (state >>> 8) % m : 0;
        }

        int allStrokes() {
            int sum = 0;
            for (int b = 0; b < BELLS; b++) {
                sum += strokes[b];
            }
            return sum;
        }
    }

    /** THE BOOK: lines of four numbers, and none more when it is full. */
    private static final class Book {
        static final int PULLED = 0;
        static final int FED = 1;
        static final int FELL_ASLEEP = 2;
        static final int WOKE = 3;

        int lines = 0;
        private final int most;
        private final int[] cells;

        Book(int most) {
            this.most = Math.max(0, most);
            cells = new int[this.most * 4];
        }

        void write(int hour, int what, int who, int many) {
            if (lines >= most) {
                return;
            }
            int at = lines * 4;
            cells[at] = hour;
            cells[at + 1] = what;
            cells[at + 2] = who;
            cells[at + 3] = many;
            lines++;
        }

        int cell(int line, int column) {
            int at = line * 4 + column;
            return at >= 0 && at < cells.length ? cells[at] : NONE;
        }

        void become(Book other) {
            lines = Math.min(other.lines, most);
            copy(other.cells, cells);
        }
    }

    /** Rows of up to three numbers, up to so many. */
    private static final class Rows {
        int count = 0;
        private final int most;
        private final int[] cells;

        Rows(int most) {
            this.most = Math.max(0, most);
            cells = new int[this.most * 3];
        }

        int add(int a, int b, int c) {
            if (count >= most) {
                return NONE;
            }
            cells[count * 3] = a;
            cells[count * 3 + 1] = b;
            cells[count * 3 + 2] = c;
            count++;
            return count;
        }

        int empty() {
            count = 0;
            return 0;
        }

        int cell(int i, int column) {
            int at = i * 3 + column;
            return at >= 0 && at < cells.length ? cells[at] : NONE;
        }

        void become(Rows other) {
            count = Math.min(other.count, most);
            copy(other.cells, cells);
        }
    }

    /** THE LAW, each line with its E and then its B in the order in which they are reckoned. */
    private static final class Law {
        static final int VALUES = 11;
        // A code below this is a number of the text itself.
        static final int FIRST_VALUE = 10000;
        static final int FIRST_SIGN = 10100;
        static final int NOT = FIRST_SIGN;
        static final int PLUS = FIRST_SIGN + 1;
        static final int MINUS = FIRST_SIGN + 2;
        static final int TIMES = FIRST_SIGN + 3;
        static final int PART = FIRST_SIGN + 4;
        static final int BELOW = FIRST_SIGN + 5;
        static final int ALIKE = FIRST_SIGN + 6;
        static final int ABOVE = FIRST_SIGN + 7;
        static final int AND = FIRST_SIGN + 8;
        static final int OR = FIRST_SIGN + 9;

        int lines = 0;
        private int used = 0;
        private final int[] words = new int[TEXT_LINES];
        private final int[] begins = new int[TEXT_LINES];
        private final int[] whens = new int[TEXT_LINES];
        private final int[] ends = new int[TEXT_LINES];
        private final int[] codes = new int[TAPE_BYTES];
        // Eight open brackets hold two waiting answers each, a comparison four: 40 are plenty.
        private final int[] stack = new int[40];

        void clear() {
            lines = 0;
            used = 0;
        }

        void begin(int word) {
            if (lines < TEXT_LINES) {
                words[lines] = word;
                begins[lines] = used;
                whens[lines] = used;
                ends[lines] = used;
            }
        }

        void add(int code) {
            if (used < codes.length) {
                codes[used] = code;
                used++;
            }
        }

        void markWhen() {
            if (lines < TEXT_LINES) {
                whens[lines] = used;
            }
        }

        void finish() {
            if (lines < TEXT_LINES) {
                ends[lines] = used;
                lines++;
            }
        }

        void become(Law other) {
            lines = other.lines;
            used = other.used;
            copy(other.words, words);
            copy(other.begins, begins);
            copy(other.whens, whens);
            copy(other.ends, ends);
            copy(other.codes, codes);
        }

        int lineFor(int word, int[] values) {
            for (int i = 0; i < lines && i < TEXT_LINES; i++) {
                if (words[i] == word && (whens[i] == ends[i] || reckon(whens[i], ends[i], values) != 0)) {
                    return i;
                }
            }
            return NONE;
        }

        int worth(int line, int[] values) {
            return within(line, 0, TEXT_LINES - 1) ? reckon(begins[line], whens[line], values) : 0;
        }

        private int reckon(int from, int until, int[] values) {
            int top = 0;
            for (int i = Math.max(0, from); i < until && i < codes.length; i++) {
                int code = codes[i];
                if (code < FIRST_SIGN) {
                    if (top < stack.length) {
                        stack[top] = code < FIRST_VALUE ? code : valueOf(code - FIRST_VALUE, values);
                        top++;
                    }
                } else if (code == NOT) {
                    if (top > 0) {
                        stack[top - 1] = 1 - stack[top - 1];
                    }
                } else if (top > 1) {
                    top--;
                    stack[top - 1] = joined(code, stack[top - 1], stack[top]);
                }
            }
            return stack[0];
        }

        private static int valueOf(int i, int[] values) {
            return i >= 0 && i < values.length ? values[i] : 0;
        }

        private static int joined(int sign, int a, int b) {
            switch (sign) {
                case PLUS: return a + b;
                case MINUS: return a - b;
                case TIMES: return a * b;
                case PART: return b == 0 ? 0 : a / b;
                case BELOW: return a < b ? 1 : 0;
                case ALIKE: return a == b ? 1 : 0;
                case ABOVE: return a > b ? 1 : 0;
                case AND: return a & b;
                default: return a | b;
            }
        }
    }

    /** The four TEXTS as they are told. */
    private static final class Texts {
        static final int WEDDING = 0;
        static final int FIRE = 1;
        static final int MARKET = 2;
        static final int DEATH = 3;
        static final int CHRISTENING = 4;
        static final int DRAUGHT = 5;

        final Law law = new Law();
        final Rows ropes = new Rows(TEXT_LINES);
        final Rows days = new Rows(TEXT_LINES);
        final Rows changes = new Rows(TEXT_LINES);

        void become(Texts other) {
            law.become(other.law);
            ropes.become(other.ropes);
            days.become(other.days);
            changes.become(other.changes);
        }

        void becomeOne(int k, Texts other) {
            switch (k) {
                case LAW: law.become(other.law); break;
                case ROPES: ropes.become(other.ropes); break;
                case DAYS: days.become(other.days); break;
                case CHANGES: changes.become(other.changes); break;
                default: break;
            }
        }

        int feltBy(int r) {
            int set = 0;
            for (int i = 0; i < ropes.count; i++) {
                if (ropes.cell(i, 0) == r) {
                    set |= 1 << ropes.cell(i, 1);
                }
            }
            return set;
        }
    }

    /** What is told for thought alone. */
    private static final class Told {
        final Rows signs = new Rows(10);
        final Rows rounds = new Rows(6);
        final Rows sees = new Rows(16);
        final Rows pigeons = new Rows(24);
        final Rows couples = new Rows(20);
        final int[] holds = new int[RINGERS * BELLS];
        final int[] opinions = new int[RINGERS];

        void become(Told other) {
            signs.become(other.signs);
            rounds.become(other.rounds);
            sees.become(other.sees);
            pigeons.become(other.pigeons);
            couples.become(other.couples);
            copy(other.holds, holds);
            copy(other.opinions, opinions);
        }

        int holdOf(int r, int b) {
            return within(r, 0, RINGERS - 1) && within(b, 0, BELLS - 1) ? holds[r * BELLS + b] : 0;
        }
    }

    /** The TAPE, and how it is read into a draft; what has a FAULT stays a draft. */
    private static final class Reader {
        static final int END = 0;
        static final int NOTHING = 1;
        static final int NUMBER = 2;
        // Each word ends with a blank, so that its index among them is its kind, from FIRST_WORD on.
        static final String WORDS = "pull hard lost when or and not feel arm hunger tired bell heavy sway folk draught hour felt ringer feels at wedding fire market death christening swap ";
        static final int FIRST_WORD = 256;
        static final int WHEN = FIRST_WORD + 3;
        static final int OR = FIRST_WORD + 4;
        static final int AND = FIRST_WORD + 5;
        static final int NOT = FIRST_WORD + 6;
        static final int FEEL = FIRST_WORD + 7;
        static final int DRAUGHT = FIRST_WORD + 15;
        static final int FELT = FIRST_WORD + 17;
        static final int RINGER = FIRST_WORD + 18;
        static final int FEELS = FIRST_WORD + 19;
        static final int AT = FIRST_WORD + 20;
        static final int WEDDING = FIRST_WORD + 21;
        static final int CHRISTENING = FIRST_WORD + 25;
        static final int SWAP = FIRST_WORD + 26;
        static final String SIGNS = ";+-*/()<=>";
        static final int MOST_OPEN = 8;
        static final int MOST_PLACE = 6;

        final Texts draft = new Texts();
        int length = 0;
        int fault = 0;
        int place = NONE;
        private final int[] tape = new int[TAPE_BYTES];
        private final int[] kinds = new int[TAPE_BYTES + 1];
        private final int[] numbers = new int[TAPE_BYTES + 1];
        private final int[] places = new int[TAPE_BYTES + 1];
        private int tokens = 0;
        private int now = 0;
        private int number = 0;
        private int ringers = 0;

        void append(int v) {
            for (int shift = 24; shift >= 0 && length < TAPE_BYTES; shift -= 8) {
                tape[length] = v >>> shift & 255;
                length++;
            }
        }

        int read(int k, int ringersNow) {
            fault = 0;
            place = NONE;
            ringers = ringersNow;
            split();
            length = 0;
            if (!within(k, LAW, CHANGES)) {
                return NONE;
            }
            clearDraft();
            for (int line = 0; line <= TEXT_LINES; line++) {
                if (kind() == END) {
                    return line;
                }
                if (!mayBegin(k)) {
                    refuse(1);
                    return NONE;
                }
                if (line == TEXT_LINES) {
                    refuse(3);
                    return NONE;
                }
                boolean whole = k == LAW ? readLaw() : k == ROPES ? readRope() : k == DAYS ? readDay() : readChange();
                if (!whole || !take(';')) {
                    return NONE;
                }
            }
            return NONE;
        }

        private void clearDraft() {
            draft.law.clear();
            draft.ropes.empty();
            draft.days.empty();
            draft.changes.empty();
        }

        private void split() {
            tokens = 0;
            now = 0;
            int at = 0;
            for (int n = 0; n < TAPE_BYTES && at < length; n++) {
                int until = runFrom(at);
                if (!isBlank(tape[at])) {
                    addToken(tokenKind(at, until), at);
                }
                at = until;
            }
            addToken(END, length);
        }

        private void addToken(int kind, int at) {
            if (tokens < kinds.length) {
                kinds[tokens] = kind;
                numbers[tokens] = number;
                places[tokens] = at;
                tokens++;
            }
        }

        private int runFrom(int at) {
            int until = at + 1;
            boolean letters = isLetter(tape[at]);
            if (!letters && !isDigit(tape[at])) {
                return until;
            }
            while (until < length && (letters ? isLetter(tape[until]) : isDigit(tape[until]))) {
                until++;
            }
            return until;
        }

        private int tokenKind(int from, int until) {
            int sign = tape[from];
            if (isLetter(sign)) {
                return wordKind(from, until);
            }
            if (isDigit(sign)) {
                return numberKind(from, until);
            }
            return SIGNS.indexOf((char) sign) >= 0 ? sign : NOTHING;
        }

        private int wordKind(int from, int until) {
            int index = 0;
            int alike = 0;
            for (int i = 0; i < WORDS.length(); i++) {
                char c = WORDS.charAt(i);
                if (c == ' ') {
                    if (alike == until - from) {
                        return FIRST_WORD + index;
                    }
                    index++;
                    alike = 0;
                } else if (alike != NONE && from + alike < until && tape[from + alike] == c) {
                    alike++;
                } else {
                    alike = NONE;
                }
            }
            return NOTHING;
        }

        private int numberKind(int from, int until) {
            if (until - from > 4) {
                return NOTHING;
            }
            number = 0;
            for (int i = from; i < until; i++) {
                number = number * 10 + tape[i] - '0';
            }
            return NUMBER;
        }

        private static boolean isBlank(int c) {
            return c == 32 || c == 10;
        }

        private static boolean isLetter(int c) {
            return c >= 'a' && c <= 'z' || c >= 'A' && c <= 'Z';
        }

        private static boolean isDigit(int c) {
            return c >= '0' && c <= '9';
        }

        private int kind() {
            return now < tokens && now < kinds.length ? kinds[now] : END;
        }

        // Always false, so that a reading method can end with it.
        private boolean refuse(int what) {
            fault = what;
            place = now < tokens && now < places.length ? places[now] : NONE;
            return false;
        }

        private boolean take(int kind) {
            if (kind() != kind) {
                return refuse(1);
            }
            now++;
            return true;
        }

        private boolean takeNumber(int most, int barred) {
            if (kind() != NUMBER || now >= numbers.length) {
                return refuse(1);
            }
            int v = numbers[now];
            if (v > most || v < 31 && isIn(barred, v)) {
                return refuse(2);
            }
            number = v;
            now++;
            return true;
        }

        private boolean mayBegin(int k) {
            switch (k) {
                case LAW: return within(kind(), FIRST_WORD + PULL, FIRST_WORD + LOST);
                case ROPES: return kind() == RINGER;
                case DAYS: return kind() == AT;
                default: return kind() == SWAP;
            }
        }

        private boolean readRope() {
            now++;
            if (!takeNumber(ringers - 1, 0)) {
                return false;
            }
            int who = number;
            if (!take(FEELS) || !takeNumber(ringers - 1, 1 << who)) {
                return false;
            }
            draft.ropes.add(who, number, 0);
            return true;
        }

        private boolean readDay() {
            now++;
            if (!takeNumber(DAY - 1, 0)) {
                return false;
            }
            int hour = number;
            int kind = kind();
            if (kind != DRAUGHT && !within(kind, WEDDING, CHRISTENING)) {
                return refuse(1);
            }
            int event = kind == DRAUGHT ? Texts.DRAUGHT : kind - WEDDING;
            now++;
            if (!takeNumber(event == Texts.DRAUGHT ? 9 : MOST_NUMBER, 0)) {
                return false;
            }
            draft.days.add(hour, event, number);
            return true;
        }

        private boolean readChange() {
            int set = 0;
            now++;
            for (int n = 0; n <= MOST_PLACE + 1; n++) {
                if (n > 0 && kind() != NUMBER) {
                    break;
                }
                if (!takeNumber(MOST_PLACE, set | set << 1 | set >> 1)) {
                    return false;
                }
                set |= 1 << number;
            }
            draft.changes.add(set, 0, 0);
            return true;
        }

        private boolean readLaw() {
            draft.law.begin(kind() - FIRST_WORD);
            now++;
            if (!readNumber()) {
                return false;
            }
            draft.law.markWhen();
            if (kind() == WHEN) {
                now++;
                if (!readTruth(0)) {
                    return false;
                }
            }
            draft.law.finish();
            return true;
        }

        // B and A in one: what stands before an "and" waits for it, what stands before an "or" until its A is whole.
        private boolean readTruth(int open) {
            boolean and = false;
            boolean or = false;
            for (int n = 0; n < TAPE_BYTES; n++) {
                int nots = takeNots(open);
                if (nots == NONE) {
                    return false;
                }
                if (!(kind() == '(' ? readInner(open + nots) : readComparison())) {
                    return false;
                }
                if ((nots & 1) == 1) {
                    draft.law.add(Law.NOT);
                }
                if (and) {
                    draft.law.add(Law.AND);
                }
                and = kind() == AND;
                if (!and) {
                    if (or) {
                        draft.law.add(Law.OR);
                    }
                    or = kind() == OR;
                    if (!or) {
                        return true;
                    }
                }
                now++;
            }
            return refuse(1);
        }

        private int takeNots(int open) {
            int nots = 0;
            for (int n = open; n <= MOST_OPEN && kind() == NOT; n++) {
                if (n == MOST_OPEN) {
                    refuse(3);
                    return NONE;
                }
                nots++;
                now++;
            }
            return nots;
        }

        private boolean readInner(int open) {
            if (open >= MOST_OPEN) {
                return refuse(3);
            }
            now++;
            return readTruth(open + 1) && take(')');
        }

        private boolean readComparison() {
            if (!readNumber()) {
                return false;
            }
            int sign = kind();
            if (!within(sign, '<', '>')) {
                return refuse(1);
            }
            now++;
            if (!readNumber()) {
                return false;
            }
            draft.law.add(Law.BELOW + sign - '<');
            return true;
        }

        // E and T in one: a * waits for the next U, a + or - until its T is whole.
        private boolean readNumber() {
            boolean times = false;
            int waiting = NONE;
            for (int n = 0; n < TAPE_BYTES; n++) {
                if (!readUnit()) {
                    return false;
                }
                if (times) {
                    draft.law.add(Law.TIMES);
                }
                for (int m = 0; m < TAPE_BYTES && kind() == '/'; m++) {
                    now++;
                    if (!takeNumber(9999, 1)) {
                        return false;
                    }
                    draft.law.add(number);
                    draft.law.add(Law.PART);
                }
                times = kind() == '*';
                if (!times) {
                    if (waiting != NONE) {
                        draft.law.add(waiting);
                    }
                    if (kind() != '+' && kind() != '-') {
                        return true;
                    }
                    waiting = kind() == '+' ? Law.PLUS : Law.MINUS;
                }
                now++;
            }
            return refuse(1);
        }

        private boolean readUnit() {
            int kind = kind();
            if (kind == NUMBER && now < numbers.length) {
                draft.law.add(numbers[now]);
            } else if (within(kind, FEEL, FELT)) {
                draft.law.add(Law.FIRST_VALUE + kind - FEEL);
            } else {
                return refuse(1);
            }
            now++;
            return true;
        }
    }

    /** Hours and pulls of one tower, as they are or as they are thought. */
    private static final class Ringing {
        final Tower tower;
        private final Book book;
        private final Texts texts;
        private final int[] values = new int[Law.VALUES];

        Ringing(Tower tower, Book book, Texts texts) {
            this.tower = tower;
            this.book = book;
            this.texts = texts;
        }

        int ask(int word, int r, int felt) {
            fillValues(r, felt);
            int line = texts.law.lineFor(word, values);
            int told = line == NONE ? usual(word, r) : texts.law.worth(line, values);
            return held(told, 0, word == PULL ? 1000 : word == HARD ? 9 : MOST_SWAY);
        }

        private void fillValues(int r, int felt) {
            boolean ofRinger = tower.has(r);
            int bell = ofRinger ? held(tower.bellOf[r], 0, BELLS - 1) : 0;
            values[0] = ofRinger ? tower.feel[r] : 0;
            values[1] = ofRinger ? tower.arm[r] : 0;
            values[2] = ofRinger ? tower.hunger[r] : 0;
            values[3] = ofRinger ? tower.tired[r] : 0;
            values[4] = bell;
            values[5] = ofRinger ? tower.heavy[bell] : 0;
            values[6] = tower.sway;
            values[7] = tower.folk;
            values[8] = tower.draught;
            values[9] = Math.floorMod(tower.hour, DAY);
            values[10] = felt;
        }

        private int usual(int word, int r) {
            if (word == LOST || !tower.has(r)) {
                return tower.sway / 4;
            }
            if (word == HARD) {
                return 1 + tower.arm[r] / 3;
            }
            return 100 + 9 * tower.hunger[r] + 5 * tower.folk;
        }

        int strike(int r, int felt) {
            if (!tower.isAwake(r)) {
                return 0;
            }
            int hard = ask(HARD, r, felt);
            int bell = held(tower.bellOf[r], 0, BELLS - 1);
            tower.strokes[bell] += hard;
            tower.sway = Math.min(MOST_SWAY, tower.sway + hard * tower.heavy[bell]);
            tower.tired[r] = Math.min(MOST_NUMBER, tower.tired[r] + hard);
            book.write(tower.hour, Book.PULLED, r, hard);
            if (tower.tired[r] == MOST_NUMBER) {
                tower.sleep(r);
                book.write(tower.hour, Book.FELL_ASLEEP, r, tower.strokes[bell]);
            }
            return hard;
        }

        int pass(boolean byDraws) {
            happen();
            int pulls = pullAll(byDraws);
            tower.sway = Math.max(0, tower.sway - ask(LOST, NONE, 0));
            for (int r = 0; r < tower.ringers; r++) {
                grow(r);
            }
            tower.folk -= tower.folk / 10;
            tower.hour++;
            return pulls;
        }

        private void happen() {
            int now = Math.floorMod(tower.hour, DAY);
            for (int i = 0; i < texts.days.count; i++) {
                if (texts.days.cell(i, 0) == now) {
                    happenOne(texts.days.cell(i, 1), texts.days.cell(i, 2));
                }
            }
        }

        private void happenOne(int event, int many) {
            switch (event) {
                case Texts.WEDDING:
                case Texts.MARKET:
                    tower.folk = Math.min(MOST_NUMBER, tower.folk + many);
                    break;
                case Texts.FIRE:
                case Texts.DEATH:
                    tower.folk = Math.max(0, tower.folk - many);
                    break;
                case Texts.CHRISTENING:
                    tower.folk = many;
                    break;
                default:
                    tower.draught = many;
                    break;
            }
        }

        private int pullAll(boolean byDraws) {
            int pulled = 0;
            for (int r = 0; r < tower.ringers; r++) {
                if (tower.isAwake(r)) {
                    int felt = Integer.bitCount(texts.feltBy(r) & pulled);
                    int likely = ask(PULL, r, felt);
                    if (byDraws ? tower.draw(1000) < likely : likely >= 500) {
                        strike(r, felt);
                        pulled |= 1 << r;
                    }
                }
            }
            return Integer.bitCount(pulled);
        }

        private void grow(int r) {
            if (!tower.has(r)) {
                return;
            }
            tower.hunger[r] = Math.min(MOST_NUMBER, tower.hunger[r] + 1);
            if (tower.isAwake(r)) {
                return;
            }
            tower.tired[r] = Math.max(0, tower.tired[r] - 9);
            if (tower.tired[r] == 0) {
                tower.wake(r);
                book.write(tower.hour, Book.WOKE, r, 0);
            }
        }
    }

    /** The towers that UNDO goes back to, round and round in the same six. */
    private static final class Past {
        int count = 0;
        private int next = 0;
        private final Tower[] towers = new Tower[UNDOABLE];
        private final int[] lines = new int[UNDOABLE];

        Past() {
            for (int i = 0; i < UNDOABLE; i++) {
                towers[i] = new Tower();
            }
        }

        void forget() {
            count = 0;
        }

        void keep(Tower tower, Book book) {
            int at = Math.floorMod(next, UNDOABLE);
            towers[at].become(tower);
            lines[at] = book.lines;
            next = (at + 1) % UNDOABLE;
            count = Math.min(UNDOABLE, count + 1);
        }

        // THE BOOK only grows between two of these, so its length is enough to go back.
        boolean goBack(Tower tower, Book book) {
            if (count == 0) {
                return false;
            }
            next = Math.floorMod(next - 1, UNDOABLE);
            tower.become(towers[next]);
            book.lines = lines[next];
            count--;
            return true;
        }
    }

    /** What is found out in thought; its rows are made once and used again. */
    private static final class Puzzles {
        private static final int SETS_OF_BELLS = 1 << BELLS;
        // Eight bells come round within 15 times the lines of CHANGES, which is 240 rows.
        private static final int MOST_ROWS = 256;
        private static final int MOST_LONG = 9999;
        private static final int MOST_SUM = 9 * RINGERS;

        private final Tower tower;
        private final Texts texts;
        private final Told told;
        private final int[] row = new int[BELLS];
        private final int[] rowsSeen = new int[MOST_ROWS];
        private final int[] leastHold = new int[SETS_OF_BELLS];
        private final int[] near = new int[PEOPLE];
        private final int[] ways = new int[2 * MOST_SUM + 1];
        private final int[] waysBefore = new int[2 * MOST_SUM + 1];
        private final int[] nimbers = new int[MOST_NUMBER + 1];

        Puzzles(Tower tower, Texts texts, Told told) {
            this.tower = tower;
            this.texts = texts;
            this.told = told;
            for (int h = 1; h <= MOST_NUMBER; h++) {
                nimbers[h] = leastBeside(nimbers[h - 1], nimbers[h / 2]);
            }
        }

        private static int leastBeside(int a, int b) {
            for (int v = 0; v < 2; v++) {
                if (v != a && v != b) {
                    return v;
                }
            }
            return 2;
        }

        private void startRounds() {
            for (int i = 0; i < BELLS; i++) {
                row[i] = i;
            }
        }

        private void change(int bells, int step) {
            if (texts.changes.count == 0) {
                return;
            }
            int set = texts.changes.cell(step % texts.changes.count, 0);
            for (int p = 0; p < bells - 1 && p < BELLS - 1; p++) {
                if (isIn(set, p)) {
                    int bell = row[p];
                    row[p] = row[p + 1];
                    row[p + 1] = bell;
                }
            }
        }

        private int rowAsNumber() {
            int v = 0;
            for (int i = 0; i < BELLS; i++) {
                v = v * BELLS + row[i];
            }
            return v;
        }

        int rowsToRounds(int bells) {
            if (texts.changes.count == 0) {
                return NONE;
            }
            startRounds();
            int rounds = rowAsNumber();
            for (int k = 1; k <= MOST_LONG; k++) {
                change(bells, k - 1);
                if (rowAsNumber() == rounds) {
                    return k;
                }
            }
            return NONE;
        }

        int rowsToRepeat(int bells) {
            if (texts.changes.count == 0) {
                return 1;
            }
            startRounds();
            for (int k = 0; k < MOST_ROWS; k++) {
                rowsSeen[k] = rowAsNumber();
                for (int i = 0; i < k; i++) {
                    if (rowsSeen[i] == rowsSeen[k]) {
                        return k;
                    }
                }
                change(bells, k);
            }
            return MOST_ROWS;
        }

        int bellAt(int bells, int i, int place) {
            if (i > 0 && texts.changes.count == 0 || !within(place, 0, BELLS - 1)) {
                return NONE;
            }
            startRounds();
            for (int k = 0; k < i; k++) {
                change(bells, k);
            }
            return row[place];
        }

        int nearestSign(int strokes, int what) {
            int best = NONE;
            int fewest = 17;
            for (int i = 0; i < told.signs.count; i++) {
                int unlike = Integer.bitCount(told.signs.cell(i, 0) ^ strokes);
                if (unlike < fewest) {
                    fewest = unlike;
                    best = i;
                }
            }
            if (best == NONE) {
                return NONE;
            }
            return what == 0 ? told.signs.cell(best, 1) : fewest;
        }

        int apart() {
            int fewest = NONE;
            for (int i = 0; i < told.signs.count; i++) {
                for (int j = 0; j < i; j++) {
                    int unlike = Integer.bitCount(told.signs.cell(i, 0) ^ told.signs.cell(j, 0));
                    if (fewest == NONE || unlike < fewest) {
                        fewest = unlike;
                    }
                }
            }
            return fewest;
        }

        int canGoWrong() {
            int fewest = apart();
            return fewest == NONE ? NONE : Math.max(0, Math.floorDiv(fewest - 1, 2));
        }

        // From the hour at which those before ring together, only steps of all their hours keep them so.
        int firstTogether() {
            int hour = 0;
            int step = 1;
            for (int i = 0; i < told.rounds.count; i++) {
                int hours = told.rounds.cell(i, 0);
                for (int n = 1; n < hours && !ringsAt(i, hour); n++) {
                    hour += step;
                }
                if (!ringsAt(i, hour)) {
                    return NONE;
                }
                step = leastCommon(step, hours);
            }
            return told.rounds.count == 0 ? NONE : hour;
        }

        private static int leastCommon(int a, int b) {
            int sum = a;
            for (int n = 1; n < b && sum % b != 0; n++) {
                sum += a;
            }
            return sum;
        }

        private boolean ringsAt(int i, int hour) {
            int hours = told.rounds.cell(i, 0);
            return hours > 0 && hour % hours == told.rounds.cell(i, 1);
        }

        int ringAt(int hour) {
            int many = 0;
            for (int i = 0; i < told.rounds.count; i++) {
                if (ringsAt(i, hour)) {
                    many++;
                }
            }
            return many;
        }

        // The ringers come in their order, so a set of bells taken tells who is next.
        int weakestHold() {
            for (int taken = SETS_OF_BELLS - 1; taken >= 0; taken--) {
                int r = Integer.bitCount(taken);
                leastHold[taken] = r >= tower.ringers ? MOST_NUMBER : NONE;
                for (int b = 0; b < BELLS && r < tower.ringers; b++) {
                    if (!isIn(taken, b)) {
                        int least = Math.min(told.holdOf(r, b), leastHold[taken | 1 << b]);
                        leastHold[taken] = Math.max(leastHold[taken], least);
                    }
                }
            }
            return leastHold[0];
        }

        int heldBy(int r) {
            int greatest = weakestHold();
            int taken = 0;
            int last = NONE;
            for (int q = 0; q <= r; q++) {
                last = firstBellFor(q, taken, greatest);
                if (last == NONE) {
                    return NONE;
                }
                taken |= 1 << last;
            }
            return last;
        }

        private int firstBellFor(int r, int taken, int least) {
            for (int b = 0; b < BELLS; b++) {
                if (!isIn(taken, b) && told.holdOf(r, b) >= least && leastHold[taken | 1 << b] >= least) {
                    return b;
                }
            }
            return NONE;
        }

        private void fillNear(Rows couples, boolean bothWays) {
            Arrays.fill(near, 0);
            for (int i = 0; i < couples.count; i++) {
                int a = couples.cell(i, 0);
                int b = couples.cell(i, 1);
                if (within(a, 0, PEOPLE - 1) && within(b, 0, PEOPLE - 1)) {
                    near[a] |= 1 << b;
                    near[b] |= bothWays ? 1 << a : 0;
                }
            }
        }

        int wavesBetween(int a, int b, int what) {
            fillNear(told.sees, false);
            Arrays.fill(ways, 0);
            if (!within(a, 0, PEOPLE - 1) || !within(b, 0, PEOPLE - 1)) {
                return NONE;
            }
            ways[a] = 1;
            int seen = 1 << a;
            int front = seen;
            for (int between = 0; between < PEOPLE; between++) {
                front = stepOn(front, seen);
                seen |= front;
                if (isIn(front, b)) {
                    return what == 0 ? between : ways[b];
                }
            }
            return NONE;
        }

        private int stepOn(int front, int seen) {
            int next = 0;
            for (int p = 0; p < PEOPLE; p++) {
                for (int q = 0; q < PEOPLE && isIn(front, p); q++) {
                    if (isIn(near[p] & ~seen, q)) {
                        ways[q] += ways[p];
                        next |= 1 << q;
                    }
                }
            }
            return next;
        }

        private int heavyOf(int set) {
            int sum = 0;
            for (int b = 0; b < BELLS; b++) {
                if (isIn(set, b)) {
                    sum += tower.heavy[b];
                }
            }
            return sum;
        }

        int borne(int w, int what) {
            int most = 0;
            int sets = 0;
            int greatest = 0;
            for (int set = 0; set < SETS_OF_BELLS; set++) {
                int many = Integer.bitCount(set);
                int heavy = heavyOf(set);
                if (heavy <= w && many >= most) {
                    greatest = many > most ? heavy : Math.max(greatest, heavy);
                    sets = many > most ? 1 : sets + 1;
                    most = many;
                }
            }
            return what == 0 ? most : what == 1 ? sets : greatest;
        }

        int bestHours(int n, int what) {
            int all = told.pigeons.count;
            int best = NONE;
            int where = NONE;
            for (int from = 0; from < all; from++) {
                int sum = 0;
                for (int i = 0; i < n; i++) {
                    sum += told.pigeons.cell((from + i) % all, 0);
                }
                if (sum > best) {
                    best = sum;
                    where = from;
                }
            }
            return what == 0 ? best : where;
        }

        private int knowNext(int known) {
            int next = known;
            for (int p = 0; p < STRANGERS; p++) {
                if (isIn(known, p)) {
                    next |= near[p];
                }
            }
            return next;
        }

        int news(int from, int what) {
            fillNear(told.couples, true);
            int known = 1 << from;
            int rounds = 0;
            for (int n = 0; n < STRANGERS; n++) {
                int next = knowNext(known);
                if (next != known) {
                    rounds++;
                }
                known = next;
            }
            return what == 0 ? rounds : Integer.bitCount(known);
        }

        int splits() {
            fillNear(told.couples, true);
            int set = 0;
            for (int p = 0; p < STRANGERS; p++) {
                if (near[p] != 0 && (near[p] & ~knownWithout(p)) != 0) {
                    set |= 1 << p;
                }
            }
            return set;
        }

        // Who would know it, if one whom p tells told it and p were not there.
        private int knownWithout(int p) {
            int known = Integer.lowestOneBit(near[p]);
            for (int n = 0; n < STRANGERS; n++) {
                known = knowNext(known) & ~(1 << p);
            }
            return known;
        }

        private int weightOf(int r) {
            return tower.has(r) ? tower.hunger[r] + tower.arm[r] : 0;
        }

        private int turnToBeFed(int r) {
            int before = 0;
            for (int q = 0; q < tower.ringers; q++) {
                if (weightOf(q) > weightOf(r) || weightOf(q) == weightOf(r) && q < r) {
                    before++;
                }
            }
            return before;
        }

        int feedingSum() {
            int sum = 0;
            for (int r = 0; r < tower.ringers; r++) {
                sum += weightOf(r) * (turnToBeFed(r) + 1);
            }
            return sum;
        }

        int fedAt(int turn) {
            for (int r = 0; r < tower.ringers; r++) {
                if (turnToBeFed(r) == turn) {
                    return r;
                }
            }
            return NONE;
        }

        private boolean beat(int i, int j) {
            int less = Math.min(tower.heavy[i], tower.heavy[j]);
            int more = Math.max(tower.heavy[i], tower.heavy[j]);
            return more > less && more < 2 * less;
        }

        private boolean anyBeat(int set) {
            for (int i = 0; i < BELLS; i++) {
                if (isIn(set, i) && (near[i] & set) != 0) {
                    return true;
                }
            }
            return false;
        }

        int castAnew(int what) {
            Arrays.fill(near, 0);
            for (int i = 0; i < BELLS; i++) {
                for (int j = 0; j < BELLS; j++) {
                    near[i] |= beat(i, j) ? 1 << j : 0;
                }
            }
            int best = SETS_OF_BELLS - 1;
            for (int set = 0; set < SETS_OF_BELLS; set++) {
                if (Integer.bitCount(set) < Integer.bitCount(best) && !anyBeat(~set & SETS_OF_BELLS - 1)) {
                    best = set;
                }
            }
            return what == 0 ? Integer.bitCount(best) : best;
        }

        int opinionOfAwake() {
            int sum = 0;
            for (int r = 0; r < tower.ringers; r++) {
                if (tower.isAwake(r)) {
                    sum += told.opinions[r];
                }
            }
            return sum;
        }

        // In ways, at MOST_SUM + s: how many sets of those AWAKE but one have the sum s.
        private void countSets(int but) {
            Arrays.fill(ways, 0);
            ways[MOST_SUM] = 1;
            for (int r = 0; r < tower.ringers; r++) {
                if (r != but && tower.isAwake(r)) {
                    copy(ways, waysBefore);
                    for (int i = 0; i < ways.length; i++) {
                        int from = i - told.opinions[r];
                        ways[i] += from >= 0 && from < ways.length ? waysBefore[from] : 0;
                    }
                }
            }
        }

        int swings() {
            countSets(NONE);
            int sets = 0;
            for (int sum = 1; sum <= MOST_SUM; sum++) {
                sets += ways[MOST_SUM + sum];
            }
            return sets;
        }

        int turns(int r) {
            if (!tower.isAwake(r)) {
                return 0;
            }
            countSets(r);
            int sets = 0;
            for (int without = 1 - told.opinions[r]; without <= 0; without++) {
                sets += ways[MOST_SUM + without];
            }
            return sets;
        }

        private int nimberOf(int h) {
            return nimbers[held(h, 0, MOST_NUMBER)];
        }

        int goodMove(int what) {
            int all = 0;
            for (int r = 0; r < tower.ringers && r < RINGERS; r++) {
                all ^= nimberOf(tower.tired[r]);
            }
            for (int r = 0; r < tower.ringers && r < RINGERS && all != 0; r++) {
                int many = loosedWell(tower.tired[r], all);
                if (many != 0) {
                    return what == 0 ? r : many;
                }
            }
            return NONE;
        }

        private int loosedWell(int h, int all) {
            int others = all ^ nimberOf(h);
            if (h > 0 && nimberOf(h - 1) == others) {
                return 1;
            }
            return h > 0 && nimberOf(h / 2) == others ? h - h / 2 : 0;
        }
    }
}
