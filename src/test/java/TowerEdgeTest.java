import java.math.BigInteger;

/** Sentences of the document that name an edge: draws, section 1 and 3 of the terms, promises 1 to 7, 12 to 16 and 39. */
final class TowerEdgeTest {
    private TowerEdgeTest() {
    }

    public static void main(String[] args) {
        atFirst();
        state();
        draws();
        setToldAlone();
        quotients();
        tenRingers();
        pullStrokesAndSway();
        pullTired();
        awakeAlone();
        feedWakeSleep();
        folkByDays();
        hourOfTheDay();
        swayLost();
        hungerAndTired();
        folkAndHour();
        lastHour();
        fullBook();
        bookLines();
        goesByFiveHundred();
        goesEnds();
        nothingOfThoughtStays();
        awakeSet();
        Check.finish("TowerEdgeTest");
    }

    private static DeafBells one(int arm) {
        DeafBells x = new DeafBells();
        x.ringer(0, 0, arm);
        return x;
    }

    private static DeafBells law(DeafBells x, String text, int lines) {
        Check.tell(x, 0, text, lines);
        return x;
    }

    private static void atFirst() {
        Check.sentence("Eight bells.");
        DeafBells x = new DeafBells();
        for (int b = 0; b < 8; b++) {
            Check.due("HEAVY of " + b, x.bell(b, 0), 1);
            Check.due("STROKES of " + b, x.bell(b, 1), 0);
        }
        Check.due("a ninth", x.bell(8, 0), -1);
        Check.sentence("HUNGER 0 .. 99 (0 at first), TIRED 0 .. 99 (0 at first), AWAKE 1, 0 (1 at first)");
        x.ringer(7, 9, 9);
        int[] want = {7, 9, 9, 0, 0, 1, 0};
        for (int what = 0; what < want.length; what++) {
            Check.due("of(0, " + what + ")", x.of(0, what), want[what]);
        }
        Check.sentence("FOLK 0 .. 99 who look up (0 at first), DRAUGHT 0 .. 9 (0 at first), SWAY 0 .. 9999 (0 at first), HOUR 0 .. 9999 (0 at first).");
        DeafBells y = new DeafBells();
        for (int what = 0; what <= 12; what++) {
            Check.due("look(" + what + ")", y.look(what), 0);
        }
        Check.sentence("TEXTS (empty at first).");
        x.pull(0);
        Check.due("pull as ever", x.of(0, 7), 100);
        Check.due("hard as ever", x.of(0, 8), 4);
        Check.due("lost as ever", x.lost(), 1);
        Check.sentence("HOLDS: told numbers of RINGER by BELL (0 .. 99; 0 at first)");
        Check.due("holds(0)", x.holds(0), 0);
        Check.sentence("of each RINGER a told number -9 .. 9 (0 at first)");
        Check.due("peals(0)", x.peals(0), 0);
        Check.due("peals(1)", x.peals(1), 0);
    }

    private static void state() {
        Check.sentence("STATE is told: what it was.");
        DeafBells x = new DeafBells();
        int before = 0;
        for (int v : new int[] {Integer.MIN_VALUE, Integer.MAX_VALUE, -1, 1, 0}) {
            Check.due("state(" + v + ")", x.state(v), before);
            Check.due("look(7)", x.look(7), v);
            before = v;
        }
    }

    private static long nextState(int state) {
        BigInteger all = BigInteger.valueOf(state).multiply(BigInteger.valueOf(1664525)).add(BigInteger.valueOf(1013904223));
        return all.mod(BigInteger.ONE.shiftLeft(32)).longValue();
    }

    private static void draws() {
        Check.sentence("it becomes 1664525 times itself + 1013904223 (ints, which wrap), then it is its highest 24 bits (without sign) modulo m");
        int least = 0;
        int most = 0;
        for (int v = 1; least == 0 || most == 0; v++) {
            long drawn = nextState(v) / 256 % 1000;
            least = drawn == 0 ? v : least;
            most = drawn == 999 ? v : most;
        }
        int[] states = {0, 1, -1, 2, 3, 4, 5, Integer.MIN_VALUE, Integer.MAX_VALUE, 123456789, -987654321, least, most};
        int high = 0;
        for (int state : states) {
            long next = nextState(state);
            high += next >= 1L << 31 ? 1 : 0;
            long drawn = next / 256 % 1000;
            Check.due("drawn is " + drawn + ", pull as much", hourFrom(state, drawn, (int) next), 0);
            Check.due("drawn is " + drawn + ", pull one more", hourFrom(state, drawn + 1, (int) next), 1);
        }
        Check.due("some draws have the sign", high > 2 && high < states.length - 2, true);
    }

    private static int hourFrom(int state, long pull, int next) {
        DeafBells x = law(one(0), "pull " + pull + ";", 1);
        x.state(state);
        int pulled = x.hours(1);
        Check.due("STATE behind " + state, x.look(7), next);
        return pulled;
    }

    private static void setToldAlone() {
        Check.sentence("What 0 HEAVY of BELL who, 1 FOLK, 2 DRAUGHT, 3 SWAY (who not asked), 4 BELL, 5 HUNGER, 6 TIRED (0 .. 98) of RINGER who");
        int[][] told = {{0, 1, 99}, {1, 1, 99}, {2, 1, 9}, {3, 1, 9999}, {4, 1, 7}, {5, 1, 99}, {6, 1, 98}};
        for (int[] t : told) {
            DeafBells x = new DeafBells();
            for (int r = 0; r < 3; r++) {
                x.ringer(0, 0, 0);
            }
            Check.due("set(" + t[0] + ", ..)", x.set(t[0], t[1], t[2]), true);
            for (int b = 0; b < 8; b++) {
                Check.due("HEAVY of " + b, x.bell(b, 0), t[0] == 0 && b == 1 ? 99 : 1);
            }
            for (int what = 1; what <= 3; what++) {
                Check.due("look(" + (what + 1) + ")", x.look(what + 1), t[0] == what ? t[2] : 0);
            }
            for (int r = 0; r < 3; r++) {
                Check.due("BELL of " + r, x.of(r, 0), t[0] == 4 && r == 1 ? 7 : 0);
                Check.due("HUNGER of " + r, x.of(r, 3), t[0] == 5 && r == 1 ? 99 : 0);
                Check.due("TIRED of " + r, x.of(r, 4), t[0] == 6 && r == 1 ? 98 : 0);
                Check.due("AWAKE of " + r, x.of(r, 5), 1);
            }
        }
        Check.sentence("By hand: to PULL, to FEED, to WAKE, to let SLEEP; BELLS are cast: HEAVY.");
        DeafBells y = one(9);
        y.pull(0);
        y.set(0, 0, 99);
        y.set(4, 0, 7);
        Check.due("SWAY as it was", y.look(4), 4);
        Check.due("STROKES stay with the BELL", y.bell(0, 1), 4);
        y.pull(0);
        Check.due("STROKES of the other", y.bell(7, 1), 4);
        Check.due("SWAY by the other", y.look(4), 8);
        Check.due("STROKES stay", y.bell(0, 1), 4);
        Check.due("STATE is not drawn by hand", y.look(7), 0);
        Check.due("HOUR goes not by hand", y.look(1), 0);
    }

    private static void quotients() {
        Check.sentence("Quotients go downwards.");
        int[] hard = {1, 1, 1, 2, 2, 2, 3, 3, 3, 4};
        for (int arm = 0; arm < 10; arm++) {
            Check.due("hard of arm " + arm, one(arm).of(0, 8), hard[arm]);
        }
        DeafBells x = new DeafBells();
        int[][] lost = {{0, 0}, {3, 0}, {4, 1}, {7, 1}, {8, 2}, {9999, 2499}};
        for (int[] l : lost) {
            x.set(3, 0, l[0]);
            Check.due("lost of " + l[0], x.lost(), l[1]);
        }
    }

    private static void tenRingers() {
        Check.sentence("NONE if one can't be, or there are ten.");
        DeafBells x = new DeafBells();
        for (int r = 0; r < 10; r++) {
            Check.due("ringer", x.ringer(7 - r % 8, 9 - r, r), r);
        }
        x.pull(3);
        Check.due("the eleventh", x.ringer(0, 0, 0), -1);
        Check.due("look(0)", x.look(0), 10);
        Check.due("what can be undone", x.look(12), 1);
        for (int r = 0; r < 10; r++) {
            Check.due("BELL of " + r, x.of(r, 0), 7 - r % 8);
            Check.due("FEEL of " + r, x.of(r, 1), 9 - r);
            Check.due("ARM of " + r, x.of(r, 2), r);
        }
        Check.due("AWAKE all", x.look(5), 1023);
        Check.due("of(10, 0)", x.of(10, 0), -1);
    }

    private static void pullStrokesAndSway() {
        Check.sentence("SWAY is hard times HEAVY more (9999 at most)");
        int[][] sways = {{9989, 9998}, {9990, 9999}, {9991, 9999}, {9999, 9999}, {0, 9}};
        for (int[] s : sways) {
            DeafBells x = law(one(0), "hard 9;", 1);
            x.set(3, 0, s[0]);
            Check.due("pull", x.pull(0), 9);
            Check.due("SWAY behind " + s[0], x.look(4), s[1]);
            Check.due("STROKES", x.bell(0, 1), 9);
        }
        DeafBells y = law(one(0), "hard 9;", 1);
        y.set(0, 0, 99);
        y.pull(0);
        Check.due("the most at once", y.look(4), 891);
        int[][] heavy = {{9107, 9998}, {9108, 9999}, {9109, 9999}};
        for (int[] h : heavy) {
            y.set(3, 0, h[0]);
            y.pull(0);
            Check.due(h[0] + " and 891", y.look(4), h[1]);
        }
    }

    private static void pullTired() {
        Check.sentence("TIRED is hard more (99 at most; at 99 he is AWAKE no more)");
        int[][] tired = {{0, 0, 0, 1}, {98, 0, 98, 1}, {97, 1, 98, 1}, {98, 1, 99, 0}, {90, 9, 99, 0}, {89, 9, 98, 1}, {95, 9, 99, 0}};
        for (int[] t : tired) {
            DeafBells x = law(one(0), "hard " + t[1] + ";", 1);
            x.set(6, 0, t[0]);
            Check.due("pull", x.pull(0), t[1]);
            Check.due("TIRED of " + t[0] + " and " + t[1], x.of(0, 4), t[2]);
            Check.due("AWAKE", x.of(0, 5), t[3]);
            Check.due("lines of THE BOOK", x.look(6), 2 - t[3]);
            Check.due("pull again", x.pull(0) == -1, t[3] == 0);
        }
    }

    private static void awakeAlone() {
        Check.sentence("(b) RINGER by RINGER that is AWAKE: a DRAW of 1000: below pull (asked ahead) he PULLS.");
        DeafBells x = new DeafBells();
        for (int r = 0; r < 3; r++) {
            x.ringer(r, 0, 0);
            x.set(6, r, 98);
        }
        law(x, "pull 1000;", 1);
        x.act(2, 1);
        x.state(5);
        Check.due("two pull", x.hours(1), 2);
        Check.due("two draws", x.look(7), (int) nextState((int) nextState(5)));
        Check.due("STROKES of him who sleeps", x.bell(1, 1), 0);
        Check.due("all sleep", x.look(5), 0);
        Check.due("none pulls", x.hours(1), 0);
        Check.due("no draw", x.look(7), (int) nextState((int) nextState(5)));
        Check.due("without any", new DeafBells().hours(1), 0);
    }

    private static void feedWakeSleep() {
        Check.sentence("To FEED one: HUNGER 0. To WAKE one: AWAKE 1, TIRED 0; to let him SLEEP: AWAKE 0.");
        DeafBells x = one(0);
        x.set(5, 0, 99);
        x.set(6, 0, 98);
        Check.due("fed", x.act(0, 0), true);
        Check.due("HUNGER", x.of(0, 3), 0);
        Check.due("TIRED stays", x.of(0, 4), 98);
        Check.due("fed again", x.act(0, 0), true);
        Check.due("let sleep", x.act(2, 0), true);
        Check.due("AWAKE", x.of(0, 5), 0);
        Check.due("TIRED stays", x.of(0, 4), 98);
        Check.due("fed asleep", x.act(0, 0), true);
        Check.due("sleeps on", x.of(0, 5), 0);
        Check.due("woken", x.act(1, 0), true);
        Check.due("AWAKE", x.of(0, 5), 1);
        Check.due("TIRED", x.of(0, 4), 0);
        Check.due("in THE BOOK: fed alone", x.look(6), 3);
    }

    private static int folkBehind(int folk, String days, int lines) {
        DeafBells x = new DeafBells();
        Check.tell(x, 2, days, lines);
        x.set(1, 0, folk);
        x.hours(1);
        return x.look(2);
    }

    private static void folkByDays() {
        Check.sentence("wedding, market: FOLK N more; fire, death: FOLK N less; christening: FOLK is N (0 .. 99 held); draught: DRAUGHT is N.");
        for (String more : new String[] {"wedding", "market"}) {
            Check.due(more + " to 98", folkBehind(50, "at 0 " + more + " 48;", 1), 89);
            Check.due(more + " to 99", folkBehind(50, "at 0 " + more + " 49;", 1), 90);
            Check.due(more + " beyond", folkBehind(50, "at 0 " + more + " 50;", 1), 90);
            Check.due(more + " far beyond", folkBehind(99, "at 0 " + more + " 99;", 1), 90);
            Check.due(more + " of 0", folkBehind(7, "at 0 " + more + " 0;", 1), 7);
        }
        for (String less : new String[] {"fire", "death"}) {
            Check.due(less + " to 1", folkBehind(50, "at 0 " + less + " 49;", 1), 1);
            Check.due(less + " to 0", folkBehind(50, "at 0 " + less + " 50;", 1), 0);
            Check.due(less + " beyond", folkBehind(50, "at 0 " + less + " 51;", 1), 0);
            Check.due(less + " of none", folkBehind(0, "at 0 " + less + " 99;", 1), 0);
            Check.due(less + " of 0", folkBehind(7, "at 0 " + less + " 0;", 1), 7);
        }
        Check.due("christening 0", folkBehind(50, "at 0 christening 0;", 1), 0);
        Check.due("christening 99", folkBehind(50, "at 0 christening 99;", 1), 90);
        Check.due("held at each line, above", folkBehind(90, "at 0 wedding 20; at 0 fire 99;", 2), 0);
        Check.due("held at each line, below", folkBehind(5, "at 0 death 20; at 0 market 8;", 2), 8);
        Check.due("line by line", folkBehind(5, "at 0 christening 9; at 0 wedding 0;", 2), 9);
        for (String what : new String[] {"wedding", "market", "fire", "death", "christening", "draught"}) {
            DeafBells one = new DeafBells();
            Check.tell(one, 2, "at 0 " + what + " 2;", 1);
            one.set(1, 0, 9);
            one.set(2, 0, 5);
            one.hours(1);
            boolean more = what.equals("wedding") || what.equals("market");
            boolean less = what.equals("fire") || what.equals("death");
            Check.due("FOLK by " + what, one.look(2), more ? 10 : less ? 7 : what.equals("draught") ? 9 : 2);
            Check.due("DRAUGHT by " + what, one.look(3), what.equals("draught") ? 2 : 5);
        }
        DeafBells x = new DeafBells();
        Check.tell(x, 2, "at 0 draught 9; at 1 draught 0; at 2 draught 4; at 2 draught 5;", 4);
        for (int want : new int[] {9, 0, 5}) {
            x.hours(1);
            Check.due("DRAUGHT", x.look(3), want);
        }
    }

    private static void hourOfTheDay() {
        Check.sentence("(HOUR of a day 0 .. 23; N 0 .. 99, draught 0 .. 9.)");
        DeafBells x = new DeafBells();
        Check.tell(x, 2, "at 0 draught 1; at 1 draught 2; at 23 draught 3;", 3);
        for (int hour = 0; hour < 50; hour++) {
            x.hours(1);
            Check.due("DRAUGHT behind hour " + hour, x.look(3), hour % 24 == 0 ? 1 : hour % 24 == 23 ? 3 : 2);
        }
        Check.sentence("hour: HOUR modulo 24");
        DeafBells y = law(one(0), "pull hour; lost hour;", 2);
        for (int hour = 0; hour < 50; hour++) {
            Check.due("hour in pull", y.of(0, 7), hour % 24);
            Check.due("hour in lost", y.lost(), hour % 24);
            y.hours(1);
        }
    }

    private static void swayLost() {
        Check.sentence("(c) SWAY is lost less (0 at least).");
        int[][] sways = {{10, 9, 1}, {10, 10, 0}, {10, 11, 0}, {0, 9999, 0}, {9999, 9999, 0}, {9999, 9998, 1}, {9999, 0, 9999}};
        for (int[] s : sways) {
            DeafBells x = law(new DeafBells(), "lost " + s[1] + ";", 1);
            x.set(3, 0, s[0]);
            x.hours(1);
            Check.due("SWAY of " + s[0] + " with " + s[1] + " lost", x.look(4), s[2]);
        }
        DeafBells y = new DeafBells();
        int[] by = {5, 4, 3, 3};
        y.set(3, 0, 5);
        for (int i = 1; i < by.length; i++) {
            y.hours(1);
            Check.due("a quarter, downwards", y.look(4), by[i]);
        }
        DeafBells z = law(one(0), "pull 1000; hard 9; lost sway - 1;", 3);
        z.set(3, 0, 9999);
        z.hours(1);
        Check.due("what is pulled is of it, and held before it is lost", z.look(4), 1);
    }

    private static void hungerAndTired() {
        Check.sentence("(d) Of each RINGER HUNGER is one more (99 at most); of those not AWAKE TIRED is 9 less (0 at least); at 0 he is AWAKE.");
        int[][] tired = {{0, 0, 1}, {1, 0, 1}, {8, 0, 1}, {9, 0, 1}, {10, 1, 0}, {98, 89, 0}};
        for (int[] t : tired) {
            DeafBells x = one(0);
            x.set(6, 0, t[0]);
            x.set(5, 0, 98);
            x.act(2, 0);
            Check.due("none pulls", x.hours(1), 0);
            Check.due("TIRED of " + t[0], x.of(0, 4), t[1]);
            Check.due("AWAKE of " + t[0], x.of(0, 5), t[2]);
            Check.due("in THE BOOK", x.look(6), t[2]);
            Check.due("HUNGER", x.of(0, 3), 99);
        }
        DeafBells y = law(one(0), "pull 0;", 1);
        y.set(6, 0, 50);
        int[] hungers = {97, 98, 99, 99, 99};
        y.set(5, 0, 97);
        for (int i = 1; i < hungers.length; i++) {
            y.hours(1);
            Check.due("HUNGER", y.of(0, 3), hungers[i]);
            Check.due("TIRED of one AWAKE", y.of(0, 4), 50);
        }
        DeafBells z = law(one(0), "pull 1000; hard 1;", 2);
        z.set(6, 0, 98);
        z.hours(1);
        Check.due("who falls asleep rests in the same hour", z.of(0, 4), 90);
        Check.due("AWAKE", z.of(0, 5), 0);
        z.hours(10);
        Check.due("TIRED", z.of(0, 4), 0);
        Check.due("AWAKE", z.of(0, 5), 1);
        Check.due("pulled once", z.bell(0, 1), 1);
    }

    private static void folkAndHour() {
        Check.sentence("(e) FOLK a tenth less; HOUR is one more.");
        DeafBells x = new DeafBells();
        for (int folk = 0; folk <= 99; folk++) {
            x.set(1, 0, folk);
            x.hours(1);
            Check.due("FOLK of " + folk, x.look(2), folk - (folk - folk % 10) / 10);
            Check.due("HOUR", x.look(1), folk + 1);
        }
    }

    private static void lastHour() {
        Check.sentence("NONE, and nothing is done, if one can't be, or HOUR would be above 9999.");
        DeafBells x = law(one(0), "pull 0;", 1);
        for (int i = 0; i < 166; i++) {
            x.hours(60);
        }
        Check.due("HOUR", x.look(1), 9960);
        x.set(5, 0, 0);
        x.set(1, 0, 50);
        for (int n = 60; n >= 40; n--) {
            Check.due("hours(" + n + ")", x.hours(n), -1);
        }
        Check.due("HOUR", x.look(1), 9960);
        Check.due("HUNGER", x.of(0, 3), 0);
        Check.due("FOLK", x.look(2), 50);
        Check.due("what can be undone", x.look(12), 0);
        Check.due("hours(39)", x.hours(39), 0);
        Check.due("HOUR", x.look(1), 9999);
        int state = x.look(7);
        Check.due("hours(1)", x.hours(1), -1);
        Check.due("hours(60)", x.hours(60), -1);
        Check.due("STATE", x.look(7), state);
        Check.due("HUNGER", x.of(0, 3), 39);
        Check.due("undo", x.undo(), true);
        Check.due("HOUR", x.look(1), 9998);
        Check.due("hours(2)", x.hours(2), -1);
        Check.due("hours(1)", x.hours(1), 0);
        Check.due("HOUR", x.look(1), 9999);
        Check.due("goes on in thought", x.goes(60, 3), 1);
    }

    private static void fullBook() {
        Check.sentence("THE BOOK (150 lines; no more then)");
        DeafBells x = new DeafBells();
        for (int r = 0; r < 3; r++) {
            x.ringer(r, 0, 0);
        }
        law(x, "pull 1000; hard 1;", 2);
        Check.due("pulls", x.hours(49), 147);
        x.pull(1);
        Check.due("lines", x.look(6), 148);
        Check.due("pulls all the same", x.hours(1), 3);
        Check.due("lines", x.look(6), 150);
        Check.due("the last but one", x.book(148, 2), 0);
        Check.due("the last", x.book(149, 2), 1);
        Check.due("its HOUR", x.book(149, 0), 49);
        Check.due("no more", x.book(150, 2), -1);
        Check.due("STROKES though", x.bell(2, 1), 50);
        Check.due("fed though", x.act(0, 2), true);
        Check.due("HUNGER", x.of(2, 3), 0);
        Check.due("lines", x.look(6), 150);
        x.undo();
        x.undo();
        Check.due("lines", x.look(6), 148);
        Check.due("undone", x.book(148, 0), -1);
        Check.due("fed", x.act(0, 2), true);
        Check.due("the new line", x.book(148, 1), 1);
        Check.due("lines", x.look(6), 149);
    }

    private static void bookLines() {
        Check.sentence("what (0 pulled, 1 fed, 2 fell asleep by TIRED, 3 woke by himself), the RINGER, how much (0: hard; 1: HUNGER; 2: STROKES of his BELL then; 3: 0)");
        DeafBells x = new DeafBells();
        x.ringer(4, 0, 0);
        x.ringer(4, 0, 0);
        law(x, "pull 0; hard 2 when tired < 98; hard 0 when hunger = 0; hard 3;", 4);
        x.pull(1);
        x.set(5, 0, 99);
        x.act(0, 0);
        x.act(0, 0);
        x.set(6, 0, 98);
        x.pull(0);
        x.set(5, 0, 1);
        x.hours(2);
        x.pull(0);
        x.act(2, 1);
        x.act(1, 1);
        x.act(2, 1);
        x.set(6, 0, 9);
        x.set(6, 1, 18);
        x.hours(2);
        int[][] want = {{0, 0, 1, 2}, {0, 1, 0, 99}, {0, 1, 0, 0}, {0, 0, 0, 0}, {2, 0, 0, 3}, {2, 2, 0, 5}, {2, 3, 0, 0}, {3, 3, 1, 0}};
        Check.due("lines", x.look(6), want.length);
        for (int i = 0; i < want.length; i++) {
            for (int what = 0; what < 4; what++) {
                Check.due("book(" + i + ", " + what + ")", x.book(i, what), want[i][what]);
            }
        }
    }

    private static void goesByFiveHundred() {
        Check.sentence("(nothing of it stays; no DRAWS: he pulls, if pull is 500 at least)");
        Check.due("pull 499", law(one(0), "pull 499;", 1).goes(60, 1), 0);
        Check.due("pull 500", law(one(0), "pull 500;", 1).goes(60, 1), 60);
        Check.due("pull 1000", law(one(0), "pull 1000;", 1).goes(1, 1), 1);
        DeafBells x = one(0);
        x.set(5, 0, 44);
        Check.due("100 and 9 times 44 is 496", x.goes(1, 1), 0);
        Check.due("100 and 9 times 45 is 505", x.goes(2, 1), 1);
    }

    private static void goesEnds() {
        Check.sentence("GOES for n (1 .. 60) HOURS: SWAY, STROKES of all BELLS, FOLK, how many are AWAKE then.");
        DeafBells x = new DeafBells();
        x.ringer(0, 0, 0);
        x.ringer(7, 0, 0);
        x.set(0, 7, 99);
        x.set(1, 0, 99);
        x.set(3, 0, 9990);
        x.set(6, 0, 95);
        law(x, "pull 500; hard 5; lost 9;", 3);
        int[][] want = {{9990, 10, 90, 1}, {9990, 15, 81, 1}};
        for (int n = 1; n <= 2; n++) {
            for (int what = 0; what < 4; what++) {
                Check.due("goes(" + n + ", " + what + ")", x.goes(n, what), want[n - 1][what]);
            }
        }
        Check.due("one is back behind eleven", x.goes(11, 3), 2);
        Check.due("one is not behind ten", x.goes(10, 3), 1);
        Check.due("without any", new DeafBells().goes(60, 3), 0);
    }

    private static void nothingOfThoughtStays() {
        Check.sentence("IN THOUGHT (nothing of it stays");
        DeafBells x = Scene.full();
        for (int what = 0; what < 4; what++) {
            x.goes(60, what);
        }
        Check.due("all is as it was", Scene.shown(x).equals(Scene.shown(Scene.full())), true);
    }

    private static void awakeSet() {
        Check.sentence("5 those AWAKE (a set)");
        DeafBells x = new DeafBells();
        for (int r = 0; r < 10; r++) {
            x.ringer(0, 0, 0);
        }
        x.act(2, 0);
        x.act(2, 9);
        Check.due("look(5)", x.look(5), 510);
        Check.sentence("(STATE as it is.)");
        x.state(-1);
        Check.due("look(7)", x.look(7), -1);
    }
}
