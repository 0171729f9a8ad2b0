/** Promises 1 to 7, 12 to 16 and 39: the tower, those who ring, hours, and THE BOOK. */
final class TowerTest {
    private TowerTest() {
    }

    public static void main(String[] args) {
        newObject();
        state();
        ringers();
        set();
        pull();
        act();
        hours();
        longHours();
        ofRinger();
        bell();
        lost();
        book();
        fullBook();
        goes();
        look();
        Check.finish("TowerTest");
    }

    private static void newObject() {
        DeafBells x = new DeafBells();
        for (int b = 0; b < 8; b++) {
            Check.due("bell(" + b + ", 0)", x.bell(b, 0), 1);
            Check.due("bell(" + b + ", 1)", x.bell(b, 1), 0);
        }
        for (int what = 0; what <= 12; what++) {
            Check.due("look(" + what + ")", x.look(what), 0);
        }
        Check.due("undo()", x.undo(), false);
        Check.due("image(false)", x.image(false), false);
        Check.due("fault(0)", x.fault(0), 0);
        Check.due("fault(1)", x.fault(1), -1);
        Check.due("end(0)", x.end(0), true);
        Check.due("end(1)", x.end(1), false);
    }

    private static void state() {
        DeafBells x = new DeafBells();
        Check.due("state(7)", x.state(7), 0);
        Check.due("state(MIN)", x.state(Integer.MIN_VALUE), 7);
        Check.due("state(MAX)", x.state(Integer.MAX_VALUE), Integer.MIN_VALUE);
        Check.due("look(7)", x.look(7), Integer.MAX_VALUE);
    }

    private static void ringers() {
        DeafBells x = new DeafBells();
        int[][] bad = {{-1, 0, 0}, {8, 0, 0}, {0, -1, 0}, {0, 10, 0}, {0, 0, -1}, {0, 0, 10}, {Integer.MIN_VALUE, 0, 0}, {0, 0, Integer.MAX_VALUE}};
        for (int[] b : bad) {
            Check.due("ringer out of bounds", x.ringer(b[0], b[1], b[2]), -1);
        }
        Check.due("look(0)", x.look(0), 0);
        for (int r = 0; r < 10; r++) {
            Check.due("ringer", x.ringer(r % 8, r, 9 - r), r);
            Check.due("look(5)", x.look(5), (2 << r) - 1);
        }
        Check.due("the eleventh", x.ringer(0, 0, 0), -1);
        Check.due("look(0)", x.look(0), 10);
        for (int r = 0; r < 10; r++) {
            int[] want = {r % 8, r, 9 - r, 0, 0, 1, 0};
            for (int what = 0; what < want.length; what++) {
                Check.due("of(" + r + ", " + what + ")", x.of(r, what), want[what]);
            }
        }
    }

    private static void set() {
        DeafBells x = new DeafBells();
        x.ringer(0, 0, 0);
        x.ringer(1, 1, 1);
        int[][] good = {{0, 0, 1}, {0, 7, 99}, {1, -5, 0}, {1, 100, 99}, {2, -1, 0}, {2, 77, 9}, {3, 9, 0}, {3, -1, 9999},
            {4, 0, 7}, {4, 1, 0}, {5, 0, 99}, {5, 1, 0}, {6, 0, 98}, {6, 1, 0}};
        for (int[] g : good) {
            Check.due("set(" + g[0] + ", " + g[1] + ", " + g[2] + ")", x.set(g[0], g[1], g[2]), true);
        }
        int[][] bad = {{0, 0, 0}, {0, 0, 100}, {0, 8, 1}, {0, -1, 1}, {1, 0, -1}, {1, 0, 100}, {2, 0, -1}, {2, 0, 10},
            {3, 0, -1}, {3, 0, 10000}, {4, 0, -1}, {4, 0, 8}, {4, 2, 0}, {4, -1, 0}, {5, 0, -1}, {5, 0, 100}, {5, 2, 0},
            {6, 0, -1}, {6, 0, 99}, {6, 2, 0}, {7, 0, 0}, {-1, 0, 1}, {Integer.MIN_VALUE, 0, 1}, {Integer.MAX_VALUE, 0, 1}};
        for (int[] b : bad) {
            Check.due("set(" + b[0] + ", " + b[1] + ", " + b[2] + ")", x.set(b[0], b[1], b[2]), false);
        }
        Check.due("HEAVY 0", x.bell(0, 0), 1);
        Check.due("HEAVY 7", x.bell(7, 0), 99);
        Check.due("FOLK", x.look(2), 99);
        Check.due("DRAUGHT", x.look(3), 9);
        Check.due("SWAY", x.look(4), 9999);
        Check.due("BELL", x.of(0, 0), 7);
        Check.due("BELL", x.of(1, 0), 0);
        Check.due("HUNGER", x.of(0, 3), 99);
        Check.due("TIRED", x.of(0, 4), 98);
        Check.due("TIRED of one asleep", x.act(2, 0) && x.set(6, 0, 0), true);
        Check.due("he sleeps on", x.of(0, 5), 0);
        x.hours(1);
        Check.due("until an hour is over", x.of(0, 5), 1);
    }

    private static void pull() {
        DeafBells x = new DeafBells();
        Check.due("pull(0)", x.pull(0), -1);
        x.ringer(3, 0, 5);
        Check.due("pull(-1)", x.pull(-1), -1);
        Check.due("pull(1)", x.pull(1), -1);
        Check.due("pull(10)", x.pull(10), -1);
        x.set(0, 3, 70);
        x.set(3, 0, 9900);
        Check.due("pull(0)", x.pull(0), 2);
        Check.due("STROKES", x.bell(3, 1), 2);
        Check.due("SWAY at most", x.look(4), 9999);
        Check.due("TIRED", x.of(0, 4), 2);
        Check.due("HUNGER", x.of(0, 3), 0);
        Check.due("HOUR", x.look(1), 0);
        Check.due("STATE", x.look(7), 0);
        x.set(6, 0, 96);
        Check.due("pull(0)", x.pull(0), 2);
        Check.due("awake at 98", x.of(0, 5), 1);
        Check.tell(x, 0, "hard 1;", 1);
        Check.due("pull(0)", x.pull(0), 1);
        Check.due("asleep at 99", x.of(0, 5), 0);
        Check.due("pull(0)", x.pull(0), -1);
        Check.due("lines", x.look(6), 4);
        Check.due("what", x.book(3, 1), 2);
        Check.due("STROKES then", x.book(3, 3), 5);
        x.act(1, 0);
        Check.tell(x, 0, "hard 0;", 1);
        Check.due("pull(0) not hard", x.pull(0), 0);
        Check.due("it stands in THE BOOK", x.book(4, 1), 0);
        Check.due("lines", x.look(6), 5);
    }

    private static void act() {
        DeafBells x = new DeafBells();
        x.ringer(0, 0, 0);
        x.set(5, 0, 40);
        x.set(6, 0, 50);
        int[][] bad = {{-1, 0}, {3, 0}, {0, -1}, {0, 1}, {1, 1}, {2, 1}, {2, 10}, {1, 0}};
        for (int[] b : bad) {
            Check.due("act(" + b[0] + ", " + b[1] + ")", x.act(b[0], b[1]), false);
        }
        Check.due("look(12)", x.look(12), 0);
        Check.due("sleep", x.act(2, 0), true);
        Check.due("AWAKE", x.of(0, 5), 0);
        Check.due("TIRED", x.of(0, 4), 50);
        Check.due("sleep again", x.act(2, 0), false);
        Check.due("fed asleep", x.act(0, 0), true);
        Check.due("HUNGER", x.of(0, 3), 0);
        Check.due("fed without hunger", x.act(0, 0), true);
        Check.due("woken", x.act(1, 0), true);
        Check.due("AWAKE", x.of(0, 5), 1);
        Check.due("TIRED", x.of(0, 4), 0);
        Check.due("woken again", x.act(1, 0), false);
        Check.due("lines: what is fed alone", x.look(6), 2);
        Check.due("how much", x.book(0, 3), 40);
        Check.due("how much", x.book(1, 3), 0);
        Check.due("look(12)", x.look(12), 4);
    }

    private static int next(int state) {
        return state * 1664525 + 1013904223;
    }

    private static void hours() {
        DeafBells x = new DeafBells();
        x.ringer(0, 0, 9);
        x.ringer(1, 0, 0);
        x.ringer(1, 0, 0);
        x.act(2, 1);
        x.set(6, 1, 20);
        x.set(5, 0, 99);
        x.set(1, 0, 99);
        x.state(-12345);
        Check.due("hours(0)", x.hours(0), -1);
        Check.due("hours(-1)", x.hours(-1), -1);
        Check.due("hours(61)", x.hours(61), -1);
        int first = next(-12345);
        int second = next(first);
        int pulls = ((first >>> 8) % 1000 < 1000 ? 1 : 0) + ((second >>> 8) % 1000 < 595 ? 1 : 0);
        Check.due("hours(1)", x.hours(1), pulls);
        Check.due("STATE: the one asleep draws not", x.look(7), second);
        Check.due("HUNGER at most", x.of(0, 3), 99);
        Check.due("HUNGER", x.of(1, 3), 1);
        Check.due("TIRED 9 less", x.of(1, 4), 11);
        Check.due("FOLK a tenth less", x.look(2), 90);
        Check.due("HOUR", x.look(1), 1);
        x.hours(1);
        Check.due("TIRED 9 less", x.of(1, 4), 2);
        Check.due("FOLK a tenth less", x.look(2), 81);
        Check.due("asleep", x.of(1, 5), 0);
        x.hours(1);
        Check.due("TIRED 0 at least", x.of(1, 4), 0);
        Check.due("awake", x.of(1, 5), 1);
        x.set(1, 0, 9);
        x.hours(1);
        Check.due("FOLK below ten", x.look(2), 9);

        DeafBells y = new DeafBells();
        y.ringer(0, 0, 9);
        y.ringer(2, 0, 9);
        y.set(0, 0, 99);
        Check.tell(y, 0, "pull 1000; hard 9; lost 1000;", 3);
        Check.due("all hours, all pull", y.hours(10), 20);
        Check.due("STROKES", y.bell(0, 1), 90);
        Check.due("SWAY is lost", y.look(4), 0);
        Check.due("TIRED", y.of(0, 4), 90);
        Check.due("hours(1)", y.hours(1), 2);
        Check.due("asleep in the hour, and 9 less in it", y.of(0, 4), 90);
        Check.due("asleep", y.look(5), 0);
        Check.due("no one pulls", y.hours(9), 0);
        Check.due("TIRED", y.of(0, 4), 9);
        Check.due("no one pulls", y.hours(1), 0);
        Check.due("awake of themselves", y.look(5), 3);
        Check.tell(y, 0, "pull 0 - 1;", 1);
        Check.due("never below 0", y.hours(5), 0);
    }

    private static void longHours() {
        DeafBells x = new DeafBells();
        for (int i = 0; i < 166; i++) {
            Check.due("hours(60)", x.hours(60), 0);
        }
        Check.due("HOUR", x.look(1), 9960);
        Check.due("hours(40)", x.hours(40), -1);
        Check.due("HOUR", x.look(1), 9960);
        Check.due("hours(39)", x.hours(39), 0);
        Check.due("HOUR", x.look(1), 9999);
        Check.due("hours(1)", x.hours(1), -1);
        Check.due("look(12)", x.look(12), 6);
        Check.due("goes(60, 0)", x.goes(60, 0), 0);
    }

    private static void ofRinger() {
        DeafBells x = new DeafBells();
        x.ringer(4, 6, 8);
        x.ringer(5, 0, 2);
        x.ringer(6, 0, 3);
        Check.tell(x, 1, "ringer 0 feels 1; ringer 0 feels 2; ringer 2 feels 0; ringer 0 feels 1;", 4);
        int[] want = {4, 6, 8, 0, 0, 1, 6, 100, 3};
        for (int what = 0; what < want.length; what++) {
            Check.due("of(0, " + what + ")", x.of(0, what), want[what]);
        }
        Check.due("of(1, 6)", x.of(1, 6), 0);
        Check.due("of(2, 6)", x.of(2, 6), 1);
        Check.due("of(1, 8)", x.of(1, 8), 1);
        Check.due("of(2, 8)", x.of(2, 8), 2);
        Check.due("of(0, 9)", x.of(0, 9), -1);
        Check.due("of(0, -1)", x.of(0, -1), -1);
        Check.due("of(3, 0)", x.of(3, 0), -1);
        Check.due("of(-1, 0)", x.of(-1, 0), -1);
        x.set(5, 0, 90);
        x.set(1, 0, 18);
        Check.due("pull at most", x.of(0, 7), 1000);
        x.set(1, 0, 17);
        x.act(2, 0);
        Check.due("pull asleep", x.of(0, 7), 995);
        Check.tell(x, 0, "pull felt + 5; hard 9 + felt;", 2);
        Check.due("felt 0", x.of(0, 7), 5);
        Check.due("hard at most", x.of(0, 8), 9);
        Check.tell(x, 0, "pull 1001; hard 0 - 1;", 2);
        Check.due("pull at most", x.of(0, 7), 1000);
        Check.due("hard at least", x.of(0, 8), 0);
    }

    private static void bell() {
        DeafBells x = new DeafBells();
        x.ringer(7, 0, 9);
        x.set(0, 7, 33);
        x.pull(0);
        x.pull(0);
        Check.due("bell(7, 0)", x.bell(7, 0), 33);
        Check.due("bell(7, 1)", x.bell(7, 1), 8);
        Check.due("bell(7, 2)", x.bell(7, 2), -1);
        Check.due("bell(7, -1)", x.bell(7, -1), -1);
        Check.due("bell(-1, 0)", x.bell(-1, 0), -1);
        Check.due("bell(8, 0)", x.bell(8, 0), -1);
        x.set(4, 0, 6);
        x.pull(0);
        Check.due("bell(7, 1)", x.bell(7, 1), 8);
        Check.due("bell(6, 1)", x.bell(6, 1), 4);
    }

    private static void lost() {
        DeafBells x = new DeafBells();
        x.ringer(3, 5, 5);
        x.set(0, 0, 9);
        x.set(3, 0, 103);
        Check.due("sway by 4", x.lost(), 25);
        Check.tell(x, 0, "lost feel + arm + hunger + tired + bell + heavy + felt;", 1);
        Check.due("the rest 0", x.lost(), 0);
        x.set(1, 0, 4);
        x.set(2, 0, 6);
        Check.tell(x, 0, "lost sway * 10 + folk + draught * 100 + hour * 2000;", 1);
        Check.due("lost", x.lost(), 1634);
        x.hours(1);
        x.set(3, 0, 1);
        Check.due("lost", x.lost(), 2614);
        Check.tell(x, 0, "lost 9999 + 1;", 1);
        Check.due("at most", x.lost(), 9999);
        Check.tell(x, 0, "lost 1 - 2;", 1);
        Check.due("at least", x.lost(), 0);
    }

    private static void book() {
        DeafBells x = new DeafBells();
        x.ringer(2, 0, 9);
        x.ringer(2, 0, 3);
        x.hours(1);
        int before = x.look(6);
        x.pull(1);
        x.act(0, 1);
        x.act(2, 0);
        x.act(1, 0);
        x.set(6, 0, 98);
        x.pull(0);
        int[][] want = {{1, 0, 1, 2}, {1, 1, 1, 1}, {1, 0, 0, 4}, {1, 2, 0, x.bell(2, 1)}};
        for (int i = 0; i < want.length; i++) {
            for (int what = 0; what < 4; what++) {
                Check.due("book(" + i + ", " + what + ")", x.book(before + i, what), want[i][what]);
            }
        }
        Check.due("lines", x.look(6), before + 4);
        Check.due("beyond", x.book(before + 4, 0), -1);
        Check.due("book(-1, 0)", x.book(-1, 0), -1);
        Check.due("book(0, 4)", x.book(before, 4), -1);
        Check.due("book(0, -1)", x.book(before, -1), -1);
        Check.due("book(MAX, 0)", x.book(Integer.MAX_VALUE, 0), -1);
        x.set(6, 0, 9);
        Check.tell(x, 0, "pull 0;", 1);
        x.hours(1);
        int[] woke = {1, 3, 0, 0};
        for (int what = 0; what < 4; what++) {
            Check.due("woke by himself", x.book(before + 4, what), woke[what]);
        }
    }

    private static void fullBook() {
        DeafBells x = new DeafBells();
        x.ringer(0, 0, 0);
        for (int i = 0; i < 149; i++) {
            x.act(0, 0);
        }
        x.set(6, 0, 98);
        Check.due("lines", x.look(6), 149);
        x.pull(0);
        Check.due("lines", x.look(6), 150);
        Check.due("asleep, though not in THE BOOK", x.of(0, 5), 0);
        Check.due("the last line", x.book(149, 1), 0);
        Check.due("no more", x.book(150, 0), -1);
        x.act(0, 0);
        Check.due("lines", x.look(6), 150);
        Check.due("undo", x.undo() && x.undo(), true);
        Check.due("lines", x.look(6), 149);
        Check.due("undone line", x.book(149, 1), -1);
    }

    private static void goes() {
        DeafBells x = new DeafBells();
        x.ringer(0, 9, 3);
        x.ringer(1, 0, 0);
        x.ringer(2, 0, 0);
        x.set(0, 0, 10);
        x.act(2, 2);
        x.set(6, 2, 18);
        Check.tell(x, 1, "ringer 1 feels 0;", 1);
        Check.tell(x, 0, "pull 499 when feel = 0 and felt = 0; pull 500 when bell < 2; pull 0; hard 2; lost 5;", 5);
        Check.tell(x, 2, "at 1 wedding 50; at 2 draught 3;", 2);
        Check.due("SWAY", x.goes(1, 0), 17);
        Check.due("STROKES", x.goes(1, 1), 4);
        Check.due("FOLK", x.goes(1, 2), 0);
        Check.due("AWAKE", x.goes(1, 3), 2);
        Check.due("SWAY", x.goes(2, 0), 34);
        Check.due("FOLK", x.goes(2, 2), 45);
        Check.due("AWAKE", x.goes(2, 3), 3);
        Check.due("STROKES", x.goes(60, 1) > 4 * 49, true);
        Check.due("goes(0, 0)", x.goes(0, 0), -1);
        Check.due("goes(61, 0)", x.goes(61, 0), -1);
        Check.due("goes(1, 4)", x.goes(1, 4), -1);
        Check.due("goes(1, -1)", x.goes(1, -1), -1);
        int[] still = {3, 0, 0, 0, 0, 3, 0, 0, 5, 1, 2, 0, 0};
        for (int what = 0; what < still.length; what++) {
            Check.due("nothing stays: look(" + what + ")", x.look(what), still[what]);
        }
        Check.due("nothing stays", x.of(0, 4), 0);
        x.pull(0);
        Check.due("what was before counts", x.goes(1, 1), 6);
    }

    private static void look() {
        DeafBells x = new DeafBells();
        x.ringer(0, 0, 0);
        x.ringer(0, 0, 0);
        x.ringer(0, 0, 0);
        Check.tell(x, 0, "pull 1; hard 1; lost 1;", 3);
        Check.tell(x, 1, "ringer 0 feels 1; ringer 1 feels 0;", 2);
        Check.tell(x, 2, "at 0 draught 7;", 1);
        Check.tell(x, 3, "swap 0; swap 1; swap 0; swap 1;", 4);
        x.set(1, 0, 30);
        x.set(3, 0, 500);
        x.state(99);
        x.hours(1);
        x.act(2, 1);
        x.act(0, 0);
        int book = x.look(6);
        int[] want = {3, 1, 27, 7, x.look(4), 5, book, x.look(7), 3, 2, 1, 4, 3};
        for (int what = 0; what < want.length; what++) {
            Check.due("look(" + what + ")", x.look(what), want[what]);
        }
        Check.due("three draws", x.look(7), next(next(next(99))));
        Check.due("look(13)", x.look(13), -1);
        Check.due("look(-1)", x.look(-1), -1);
    }
}
