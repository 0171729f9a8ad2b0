/** The numbers that each call takes: the least and the greatest are taken, those beyond are refused and change nothing. */
final class BoundsTest {
    private static final int MIN = Integer.MIN_VALUE;
    private static final int MAX = Integer.MAX_VALUE;
    private static final int NONE = -1;
    private static final String FULL = Scene.shown(Scene.full());

    /** A call with one of its numbers left open; a boolean counts 1 or 0. */
    private interface Call {
        int with(DeafBells x, int v);
    }

    private BoundsTest() {
    }

    public static void main(String[] args) {
        toldOfRingers();
        toldBySet();
        doing();
        tape();
        asked();
        pealsAndSigns();
        roundsAndHolds();
        wavesAndPigeons();
        strangersAndOpinions();
        look();
        Check.finish("BoundsTest");
    }

    private static int bit(boolean answer) {
        return answer ? 1 : 0;
    }

    private static void taken(String call, int refusal, Call c, int... values) {
        for (int v : values) {
            Check.due(call + " of " + v + " is refused", c.with(Scene.full(), v) == refusal, false);
        }
    }

    private static void refused(String call, int refusal, Call c, int... values) {
        for (int v : values) {
            DeafBells x = Scene.full();
            Check.due(call + " of " + v, c.with(x, v), refusal);
            Check.due(call + " of " + v + " changes nothing", Scene.shown(x).equals(FULL), true);
        }
    }

    private static void edges(String call, int least, int most, int refusal, Call c) {
        taken(call, refusal, c, least, most);
        refused(call, refusal, c, least - 1, most + 1, MIN, MAX);
    }

    /** What is asked changes nothing, be it answered or not. */
    private static void asks(String call, int least, int most, int refusal, Call c) {
        edges(call, least, most, refusal, c);
        for (int v = least; v <= most; v += Math.max(1, most - least)) {
            DeafBells x = Scene.full();
            c.with(x, v);
            Check.due(call + " of " + v + " changes nothing", Scene.shown(x).equals(FULL), true);
        }
    }

    /** As edges, where NONE below the least is a call of its own. */
    private static void edgesBesideNone(String call, int most, Call c) {
        taken(call, NONE, c, NONE, 0, most);
        refused(call, NONE, c, -2, most + 1, MIN, MAX);
        Check.due(call + " of NONE", c.with(Scene.full(), NONE), 0);
    }

    private static void toldOfRingers() {
        Check.sentence("the number; NONE if one can't be, or there are ten");
        edges("ringer(v, 0, 0)", 0, 7, NONE, (x, v) -> x.ringer(v, 0, 0));
        edges("ringer(0, v, 0)", 0, 9, NONE, (x, v) -> x.ringer(0, v, 0));
        edges("ringer(0, 0, v)", 0, 9, NONE, (x, v) -> x.ringer(0, 0, v));
    }

    private static void toldBySet() {
        Check.sentence("What 0 HEAVY of BELL who, 1 FOLK, 2 DRAUGHT, 3 SWAY (who not asked), 4 BELL, 5 HUNGER, 6 TIRED (0 .. 98) of RINGER who: true; false if one can't be, or another what.");
        edges("set(v, 0, 1)", 0, 6, 0, (x, v) -> bit(x.set(v, 0, 1)));
        edges("set(0, v, 1)", 0, 7, 0, (x, v) -> bit(x.set(0, v, 1)));
        for (int what = 1; what <= 3; what++) {
            int w = what;
            taken("set(" + w + ", v, 1)", 0, (x, v) -> bit(x.set(w, v, 1)), MIN, -1, 0, 8, 10, MAX);
        }
        for (int what = 4; what <= 6; what++) {
            int w = what;
            edges("set(" + w + ", v, 1)", 0, Scene.RINGERS - 1, 0, (x, v) -> bit(x.set(w, v, 1)));
        }
        int[][] values = {{1, 99}, {0, 99}, {0, 9}, {0, 9999}, {0, 7}, {0, 99}, {0, 98}};
        for (int what = 0; what <= 6; what++) {
            int w = what;
            edges("set(" + w + ", 0, v)", values[w][0], values[w][1], 0, (x, v) -> bit(x.set(w, 0, v)));
        }
    }

    private static void doing() {
        Check.sentence("To PULL: hard; NONE if he is not AWAKE, or there is none such.");
        taken("pull(v)", NONE, (x, v) -> x.pull(v), 0, 2, Scene.RINGERS - 1);
        refused("pull(v)", NONE, (x, v) -> x.pull(v), -1, Scene.RINGERS, 10, MIN, MAX, 1, 3);
        Check.sentence("false if it can't be (woken: AWAKE; slept: not), or another what.");
        edges("act(v, 1)", 0, 1, 0, (x, v) -> bit(x.act(v, 1)));
        refused("act(2, v)", 0, (x, v) -> bit(x.act(2, v)), 1, 3);
        refused("act(1, v)", 0, (x, v) -> bit(x.act(1, v)), 0, 2, 4);
        refused("act(v, 0)", 0, (x, v) -> bit(x.act(v, 0)), -1, 1, 3, MIN, MAX);
        taken("act(v, 0)", 0, (x, v) -> bit(x.act(v, 0)), 0, 2);
        edges("act(0, v)", 0, Scene.RINGERS - 1, 0, (x, v) -> bit(x.act(0, v)));
        for (int what = 1; what <= 2; what++) {
            int w = what;
            refused("act(" + w + ", v)", 0, (x, v) -> bit(x.act(w, v)), -1, Scene.RINGERS, 10, MIN, MAX);
        }
        Check.sentence("HOURS go by (1 .. 60): how many pulled. NONE, and nothing is done, if one can't be");
        edges("hours(v)", 1, 60, NONE, (x, v) -> x.hours(v));
    }

    private static void tape() {
        Check.sentence("false, changing nothing, if it has not so many, or n is below 0");
        edges("end(v)", 0, Scene.TAPE, 0, (x, v) -> bit(x.end(v)));
        Check.sentence("NONE for another what.");
        asks("fault(v)", 0, 1, NONE, (x, v) -> x.fault(v));
        Check.sentence("NONE: no such one (fault() tells 0)");
        for (int k : new int[] {-1, 4, MIN, MAX}) {
            DeafBells x = Scene.full();
            Check.due("text(" + k + ")", x.text(k), NONE);
            Check.due("fault(0)", x.fault(0), 0);
            Check.due("fault(1)", x.fault(1), NONE);
            for (int text = 0; text < 4; text++) {
                Check.due("lines of text " + text, x.look(8 + text), text == 0 ? 3 : 2);
            }
            Check.due("what can be undone", x.look(12), 6);
        }
    }

    private static void asked() {
        Check.sentence("7 pull (felt 0), 8 hard (felt 0). NONE if there is none such, or another what.");
        asks("of(v, 0)", 0, Scene.RINGERS - 1, NONE, (x, v) -> x.of(v, 0));
        asks("of(1, v)", 0, 8, NONE, (x, v) -> x.of(1, v));
        Check.sentence("Of a BELL what 0 HEAVY, 1 STROKES. NONE if there is none such, or another what.");
        asks("bell(v, 0)", 0, 7, NONE, (x, v) -> x.bell(v, 0));
        asks("bell(0, v)", 0, 1, NONE, (x, v) -> x.bell(0, v));
        Check.sentence("2 the RINGER, 3 how much. NONE if there is none such, or another what.");
        int lines = Scene.full().look(6);
        asks("book(v, 0)", 0, lines - 1, NONE, (x, v) -> x.book(v, 0));
        asks("book(0, v)", 0, 3, NONE, (x, v) -> x.book(0, v));
        Check.sentence("GOES what 0 SWAY, 1 STROKES, 2 FOLK, 3 how many are AWAKE. NONE if one can't be, or another what.");
        asks("goes(v, 0)", 1, 60, NONE, (x, v) -> x.goes(v, 0));
        asks("goes(1, v)", 0, 3, NONE, (x, v) -> x.goes(1, v));
    }

    private static void pealsAndSigns() {
        Check.sentence("1 TRUE (without CHANGES 1). NONE if n can't be, or another what.");
        asks("peal(v, 0)", 2, 8, NONE, (x, v) -> x.peal(v, 0));
        asks("peal(v, 1)", 2, 8, NONE, (x, v) -> x.peal(v, 1));
        asks("peal(4, v)", 0, 1, NONE, (x, v) -> x.peal(4, v));
        Check.sentence("ROW i: the bell at a place; NONE if one can't be");
        asks("row(v, 0, 0)", 2, 8, NONE, (x, v) -> x.row(v, 0, 0));
        asks("row(4, v, 0)", 0, 999, NONE, (x, v) -> x.row(4, v, 0));
        for (int bells = 2; bells <= 8; bells++) {
            int n = bells;
            asks("row(" + n + ", 1, v)", 0, n - 1, NONE, (x, v) -> x.row(n, 1, v));
        }
        Check.sentence("NONE if one can't be (0 .. 65535), or there are ten");
        edgesBesideNone("sign(v, 0)", 65535, (x, v) -> x.sign(v, 0));
        edges("sign(1, v)", 0, 99, NONE, (x, v) -> x.sign(1, v));
        Check.sentence("MEANT what 0 what, 1 how many are unlike (NONE without SIGNS); APART what 2, how many can go wrong what 3 (strokes not asked; NONE: fewer than two). NONE if one can't be, or another what.");
        asks("meant(v, 0)", 0, 65535, NONE, (x, v) -> x.meant(v, 0));
        asks("meant(v, 1)", 0, 65535, NONE, (x, v) -> x.meant(v, 1));
        asks("meant(1, v)", 0, 3, NONE, (x, v) -> x.meant(1, v));
        taken("meant(v, 2)", NONE, (x, v) -> x.meant(v, 2), MIN, -1, 65536, MAX);
        taken("meant(v, 3)", NONE, (x, v) -> x.meant(v, 3), MIN, -1, 65536, MAX);
    }

    private static void roundsAndHolds() {
        Check.sentence("each so many hours (1 .. 12), first at one (0 .. 11, less than it)");
        taken("round(v, 0)", NONE, (x, v) -> x.round(v, 0), NONE, 1, 12);
        refused("round(v, 0)", NONE, (x, v) -> x.round(v, 0), 0, 13, -2, MIN, MAX);
        for (int hours = 1; hours <= 12; hours++) {
            int h = hours;
            edges("round(" + h + ", v)", 0, h - 1, NONE, (x, v) -> x.round(h, v));
        }
        taken("round(NONE, v)", NONE, (x, v) -> x.round(NONE, v), MIN, -1, 0, 12, MAX);
        Check.sentence("how many ring at an hour told (0 .. 9999)");
        taken("together(v)", NONE, (x, v) -> x.together(v), NONE, 0, 9999);
        refused("together(v)", NONE, (x, v) -> x.together(v), -2, 10000, MIN, MAX);
        Check.sentence("HOLDS is told: true; false if one can't be (RINGERS 0 .. 9)");
        edges("hold(v, 0, 1)", 0, 9, 0, (x, v) -> bit(x.hold(v, 0, 1)));
        edges("hold(0, v, 1)", 0, 7, 0, (x, v) -> bit(x.hold(0, v, 1)));
        edges("hold(0, 0, v)", 0, 99, 0, (x, v) -> bit(x.hold(0, 0, v)));
        Check.sentence("HOLDS what 0 the number, 10 + r the BELL of RINGER r. NONE without RINGERS, with more than eight, or for another what.");
        asks("holds(v)", 0, 0, NONE, (x, v) -> x.holds(v));
        asks("holds(v)", 10, 9 + Scene.RINGERS, NONE, (x, v) -> x.holds(v));
    }

    private static void wavesAndPigeons() {
        Check.sentence("NONE if one can't be (alike), or there are sixteen");
        edgesBesideNone("see(v, 5)", 11, (x, v) -> x.see(v, 5));
        edges("see(5, v)", 0, 11, NONE, (x, v) -> x.see(5, v));
        refused("see(v, v)", NONE, (x, v) -> x.see(v, v), 0, 5, 11);
        taken("see(NONE, v)", NONE, (x, v) -> x.see(NONE, v), MIN, -1, 0, 12, MAX);
        Check.sentence("WAVES what 0 how many, 1 in how many ways. NONE if there is no way, alike, one can't be, or another what.");
        asks("waves(0, 3, v)", 0, 1, NONE, (x, v) -> x.waves(0, 3, v));
        for (int what = 0; what <= 1; what++) {
            int w = what;
            refused("waves(v, 3, " + w + ")", NONE, (x, v) -> x.waves(v, 3, w), -1, 12, MIN, MAX, 3, 4, 11);
            refused("waves(0, v, " + w + ")", NONE, (x, v) -> x.waves(0, v, w), -1, 12, MIN, MAX, 0, 4, 11);
        }
        Check.sentence("BEARS what 0 how many, 1 in how many ways, 2 HEAVY. NONE if w can't be, or another what.");
        asks("bears(v, 0)", 1, 800, NONE, (x, v) -> x.bears(v, 0));
        asks("bears(100, v)", 0, 2, NONE, (x, v) -> x.bears(100, v));
        Check.sentence("PIGEONS: an hour more (NONE: none is then): how many; NONE if one can't be, or there are twenty-four.");
        edgesBesideNone("pigeon(v)", 99, (x, v) -> x.pigeon(v));
        Check.sentence("BEST what 0 the sum, 1 where. NONE if there are not so many hours, n can't be, or another what.");
        asks("best(v, 0)", 1, 3, NONE, (x, v) -> x.best(v, 0));
        asks("best(v, 1)", 1, 3, NONE, (x, v) -> x.best(v, 1));
        asks("best(1, v)", 0, 1, NONE, (x, v) -> x.best(1, v));
        refused("best(v, 0)", NONE, (x, v) -> x.best(v, 0), 24, 25);
    }

    private static void strangersAndOpinions() {
        Check.sentence("STRANGER is told (a NONE: nothing is then): how many; NONE if one can't be, or there are twenty.");
        edgesBesideNone("stranger(v, 5)", 9, (x, v) -> x.stranger(v, 5));
        edges("stranger(5, v)", 0, 9, NONE, (x, v) -> x.stranger(5, v));
        refused("stranger(v, v)", NONE, (x, v) -> x.stranger(v, v), 0, 5, 9);
        taken("stranger(NONE, v)", NONE, (x, v) -> x.stranger(NONE, v), MIN, -1, 0, 10, MAX);
        Check.sentence("HEARD what 0 rounds, 1 how many; SPLITS what 2, as a set (from not asked). NONE if one can't be, or another what.");
        asks("heard(v, 0)", 0, 9, NONE, (x, v) -> x.heard(v, 0));
        asks("heard(v, 1)", 0, 9, NONE, (x, v) -> x.heard(v, 1));
        asks("heard(1, v)", 0, 2, NONE, (x, v) -> x.heard(1, v));
        taken("heard(v, 2)", NONE, (x, v) -> x.heard(v, 2), MIN, -1, 10, MAX);
        Check.sentence("FEEDS what 0 the sum, 10 + i the i-th. NONE if there is none such, or another what.");
        asks("feeds(v)", 0, 0, NONE, (x, v) -> x.feeds(v));
        asks("feeds(v)", 10, 9 + Scene.RINGERS, NONE, (x, v) -> x.feeds(v));
        Check.sentence("CASTS what 0 how many, 1 the set. NONE for another what.");
        asks("casts(v)", 0, 1, NONE, (x, v) -> x.casts(v));
        Check.sentence("OPINION is told: true; false if one can't be (RINGERS 0 .. 9).");
        edges("opinion(v, 1)", 0, 9, 0, (x, v) -> bit(x.opinion(v, 1)));
        edges("opinion(0, v)", -9, 9, 0, (x, v) -> bit(x.opinion(0, v)));
        Check.sentence("PEALS (what 0; NONE - 99 for another what), SWINGS (1), TURNS of RINGER what - 10 (not AWAKE: 0; NONE - 99 if there is none such).");
        asks("peals(v)", 0, 1, -100, (x, v) -> x.peals(v));
        asks("peals(v)", 10, 9 + Scene.RINGERS, -100, (x, v) -> x.peals(v));
        Check.sentence("GAME what 0 the RINGER, 1 how many. NONE if who begins loses, or for another what.");
        asks("game(v)", 0, 1, NONE, (x, v) -> x.game(v));
    }

    private static void look() {
        Check.sentence("11 of CHANGES, 12 what can be undone. NONE for another what.");
        asks("look(v)", 0, 12, NONE, (x, v) -> x.look(v));
        DeafBells x = Scene.full();
        for (int what = 0; what <= 12; what++) {
            Check.due("look(" + what + ") is NONE", x.look(what) == NONE, false);
        }
    }
}
