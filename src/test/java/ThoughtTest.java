/** Promises 17 to 36: what is told for thought, and what is found out by it. */
final class ThoughtTest {
    private static final int MIN = Integer.MIN_VALUE;
    private static final int MAX = Integer.MAX_VALUE;

    private ThoughtTest() {
    }

    public static void main(String[] args) {
        peal();
        row();
        signs();
        rounds();
        holds();
        waves();
        bears();
        pigeons();
        strangers();
        feeds();
        casts();
        peals();
        game();
        Check.finish("ThoughtTest");
    }

    private static void peal() {
        DeafBells x = new DeafBells();
        Check.due("peal(1, 0)", x.peal(1, 0), -1);
        Check.due("peal(9, 1)", x.peal(9, 1), -1);
        Check.due("peal(2, 0)", x.peal(2, 0), -1);
        Check.due("peal(8, 1)", x.peal(8, 1), 1);
        Check.tell(x, 3, "swap 0 2 4 6; swap 1 3 5;", 2);
        for (int n = 2; n <= 8; n++) {
            Check.due("plain hunt LONG " + n, x.peal(n, 0), n == 2 ? 3 : 2 * n);
            Check.due("plain hunt TRUE " + n, x.peal(n, 1), n == 2 ? 2 : 2 * n);
        }
        Check.due("peal(8, 2)", x.peal(8, 2), -1);
        Check.due("peal(8, -1)", x.peal(8, -1), -1);
        Check.due("peal(MIN, 0)", x.peal(MIN, 0), -1);
        Check.tell(x, 3, "swap 0; swap 0; swap 1; swap 1; swap 0;", 5);
        Check.due("rounds in between", x.peal(3, 0), 2);
        Check.due("TRUE", x.peal(3, 1), 2);
        Check.tell(x, 3, "swap 0; swap 1; swap 1; swap 0;", 4);
        Check.due("LONG, though a row came twice", x.peal(3, 0), 4);
        Check.due("TRUE", x.peal(3, 1), 3);
        Check.tell(x, 3, "swap 6;", 1);
        Check.due("left out: rounds at once", x.peal(7, 0), 1);
        Check.due("TRUE", x.peal(7, 1), 1);
        Check.due("LONG", x.peal(8, 0), 2);
        // the longest there can be: sixteen lines, fifteen times
        Check.tell(x, 3, "swap 5;swap 1 3 5;swap 2;swap 1;swap 1 3 5;swap 5;swap 0 3 5;swap 1 3 5;swap 2;swap 0;swap 2 4 6;swap 4;"
            + "swap 0;swap 5;swap 2 4 6;swap 6;", 16);
        Check.due("LONG", x.peal(8, 0), 240);
        Check.due("TRUE", x.peal(8, 1), 240);
        Check.due("row 480", x.row(8, 480, 7), 7);
        Check.due("row 479", x.row(8, 479, 7), 6);
        Check.tell(x, 3, "swap 1 3 5;swap 0;swap 1;swap 6;swap 1 3 5;swap 6;swap 0;swap 4;swap 0 3 5;swap 3;swap 2 4 6;swap 2;"
            + "swap 6;swap 6;swap 1 4 6;swap 0 3 5;", 16);
        Check.due("LONG", x.peal(8, 0), 240);
        Check.due("TRUE", x.peal(8, 1), 14);
    }

    private static void row() {
        DeafBells x = new DeafBells();
        for (int place = 0; place < 8; place++) {
            Check.due("row(8, 0, place)", x.row(8, 0, place), place);
        }
        Check.due("row(8, 1, 0)", x.row(8, 1, 0), -1);
        Check.tell(x, 3, "swap 0 2; swap 1;", 2);
        int[][] want = {{0, 1, 2, 3}, {1, 0, 3, 2}, {1, 3, 0, 2}, {3, 1, 2, 0}, {3, 2, 1, 0}};
        for (int i = 0; i < want.length; i++) {
            for (int place = 0; place < 4; place++) {
                Check.due("row(4, " + i + ", " + place + ")", x.row(4, i, place), want[i][place]);
                Check.due("row again", x.row(4, i + 8 * 124, place), i + 8 * 124 < 1000 ? want[i][place] : -1);
            }
        }
        Check.due("row(4, 999, 0)", x.row(4, 999, 0), x.row(4, 7, 0));
        Check.due("row(4, 1000, 0)", x.row(4, 1000, 0), -1);
        Check.due("row(4, -1, 0)", x.row(4, -1, 0), -1);
        Check.due("row(4, 0, 4)", x.row(4, 0, 4), -1);
        Check.due("row(4, 0, -1)", x.row(4, 0, -1), -1);
        Check.due("row(1, 0, 0)", x.row(1, 0, 0), -1);
        Check.due("row(9, 0, 0)", x.row(9, 0, 0), -1);
        Check.due("row(3, 1, 2): place 2 is left out", x.row(3, 1, 2), 2);
        Check.due("row(2, 2, 0)", x.row(2, 2, 0), 1);
    }

    private static void signs() {
        DeafBells x = new DeafBells();
        Check.due("meant(0, 0)", x.meant(0, 0), -1);
        Check.due("meant(0, 1)", x.meant(0, 1), -1);
        int[][] bad = {{-2, 0}, {65536, 0}, {0, -1}, {0, 100}, {MIN, 0}, {MAX, 0}};
        for (int[] b : bad) {
            Check.due("sign out of bounds", x.sign(b[0], b[1]), -1);
        }
        Check.due("sign", x.sign(65535, 99), 1);
        Check.due("meant far off", x.meant(0, 0), 99);
        Check.due("sixteen unlike", x.meant(0, 1), 16);
        Check.due("APART of one", x.meant(0, 2), -1);
        Check.due("wrong of one", x.meant(0, 3), -1);
        Check.due("sign", x.sign(0, 0), 2);
        Check.due("APART", x.meant(-5, 2), 16);
        Check.due("wrong: 15 by 2", x.meant(70000, 3), 7);
        Check.due("the first told of several", x.meant(255, 0), 99);
        Check.due("eight unlike", x.meant(255, 1), 8);
        Check.due("the nearer", x.meant(127, 0), 0);
        Check.due("sign", x.sign(1, 5), 3);
        Check.due("APART", x.meant(0, 2), 1);
        Check.due("wrong", x.meant(0, 3), 0);
        Check.due("the same again", x.sign(1, 6), 4);
        Check.due("APART", x.meant(0, 2), 0);
        Check.due("wrong, 0 at least", x.meant(0, 3), 0);
        Check.due("the first of the same", x.meant(1, 0), 5);
        Check.due("meant(-1, 0)", x.meant(-1, 0), -1);
        Check.due("meant(65536, 1)", x.meant(65536, 1), -1);
        Check.due("meant(0, 4)", x.meant(0, 4), -1);
        Check.due("meant(0, -1)", x.meant(0, -1), -1);
        for (int i = 5; i <= 10; i++) {
            Check.due("sign", x.sign(i, i), i);
        }
        Check.due("the eleventh", x.sign(0, 0), -1);
        Check.due("none then", x.sign(-1, 500), 0);
        Check.due("meant", x.meant(0, 0), -1);
        Check.due("sign", x.sign(7, 3), 1);
        Check.due("sign", x.sign(56, 4), 2);
        Check.due("APART", x.meant(0, 2), 6);
        Check.due("wrong: 5 by 2", x.meant(0, 3), 2);
    }

    private static void rounds() {
        DeafBells x = new DeafBells();
        Check.due("together without", x.together(-1), -1);
        Check.due("together(0)", x.together(0), 0);
        int[][] bad = {{0, 0}, {13, 0}, {-2, 0}, {5, 5}, {5, -1}, {1, 1}, {12, 12}, {MAX, 0}, {MIN, 0}};
        for (int[] b : bad) {
            Check.due("round(" + b[0] + ", " + b[1] + ")", x.round(b[0], b[1]), -1);
        }
        Check.due("round(12, 11)", x.round(12, 11), 1);
        Check.due("together", x.together(-1), 11);
        Check.due("round(11, 10)", x.round(11, 10), 2);
        Check.due("round(10, 9)", x.round(10, 9), 3);
        Check.due("round(9, 8)", x.round(9, 8), 4);
        Check.due("round(8, 7)", x.round(8, 7), 5);
        Check.due("round(7, 6)", x.round(7, 6), 6);
        Check.due("the latest hour of all", x.together(-1), 27719);
        Check.due("the seventh", x.round(1, 0), -1);
        Check.due("together(9999)", x.together(9999), (9999 % 12 == 11 ? 1 : 0) + (9999 % 11 == 10 ? 1 : 0) + (9999 % 10 == 9 ? 1 : 0)
            + (9999 % 9 == 8 ? 1 : 0) + (9999 % 8 == 7 ? 1 : 0) + (9999 % 7 == 6 ? 1 : 0));
        Check.due("together(10000)", x.together(10000), -1);
        Check.due("together(-2)", x.together(-2), -1);
        Check.due("none then", x.round(-1, 99), 0);
        Check.due("together", x.together(-1), -1);
        x.round(1, 0);
        Check.due("together", x.together(-1), 0);
        x.round(4, 1);
        x.round(6, 2);
        Check.due("never", x.together(-1), -1);
        Check.due("together(1)", x.together(1), 2);
        Check.due("together(2)", x.together(2), 2);
        Check.due("together(3)", x.together(3), 1);
        for (int a = 1; a <= 12; a++) {
            for (int b = 1; b <= 12; b++) {
                x.round(-1, 0);
                x.round(a, a - 1);
                x.round(b, b / 2);
                int want = -1;
                for (int h = 0; h < a * b && want == -1; h++) {
                    want = h % a == a - 1 && h % b == b / 2 ? h : -1;
                }
                Check.due("together of " + a + " and " + b, x.together(-1), want);
            }
        }
    }

    private static void holds() {
        DeafBells x = new DeafBells();
        int[][] bad = {{-1, 0, 1}, {10, 0, 1}, {0, -1, 1}, {0, 8, 1}, {0, 0, -1}, {0, 0, 100}};
        for (int[] b : bad) {
            Check.due("hold out of bounds", x.hold(b[0], b[1], b[2]), false);
        }
        Check.due("hold of one who is not", x.hold(9, 7, 99), true);
        Check.due("holds(0)", x.holds(0), -1);
        Check.due("holds(10)", x.holds(10), -1);
        x.ringer(0, 0, 0);
        Check.due("all 0", x.holds(0), 0);
        Check.due("the least bell", x.holds(10), 0);
        x.hold(0, 5, 9);
        x.hold(0, 7, 9);
        Check.due("holds(0)", x.holds(0), 9);
        Check.due("holds(10)", x.holds(10), 5);
        Check.due("holds(11)", x.holds(11), -1);
        Check.due("holds(1)", x.holds(1), -1);
        Check.due("holds(9)", x.holds(9), -1);
        Check.due("holds(-1)", x.holds(-1), -1);
        x.ringer(0, 0, 0);
        x.hold(1, 5, 4);
        Check.due("two want one", x.holds(0), 4);
        Check.due("the second must", x.holds(11), 5);
        Check.due("so the first goes", x.holds(10), 7);
        x.hold(0, 2, 4);
        Check.due("enough is enough", x.holds(10), 2);
        for (int r = 2; r < 8; r++) {
            x.ringer(0, 0, 0);
        }
        Check.due("eight", x.holds(0), 0);
        Check.due("the first way", x.holds(10), 0);
        Check.due("the first way", x.holds(17), 7);
        for (int r = 0; r < 8; r++) {
            for (int b = 0; b < 8; b++) {
                x.hold(r, b, r + b == 7 ? 60 + r : r + b > 7 ? 50 : 99);
            }
        }
        Check.due("eight", x.holds(0), 60);
        for (int r = 0; r < 8; r++) {
            Check.due("only one way", x.holds(10 + r), 7 - r);
        }
        x.ringer(0, 0, 0);
        Check.due("nine", x.holds(0), -1);
        Check.due("nine", x.holds(10), -1);
    }

    private static void waves() {
        DeafBells x = new DeafBells();
        int[][] bad = {{3, 3}, {-2, 0}, {12, 0}, {0, -1}, {0, 12}};
        for (int[] b : bad) {
            Check.due("see out of bounds", x.see(b[0], b[1]), -1);
        }
        Check.due("see", x.see(0, 11), 1);
        Check.due("waves", x.waves(0, 11, 0), 0);
        Check.due("ways", x.waves(0, 11, 1), 1);
        Check.due("one way", x.waves(11, 0, 0), -1);
        Check.due("one way", x.waves(11, 0, 1), -1);
        Check.due("the same again", x.see(0, 11), 2);
        Check.due("ways", x.waves(0, 11, 1), 1);
        int[][] diamonds = {{0, 1}, {0, 2}, {0, 3}, {1, 4}, {2, 4}, {3, 4}, {4, 5}, {4, 6}, {5, 7}, {6, 7}, {7, 8}, {0, 9}, {9, 10}, {10, 4}};
        for (int i = 0; i < diamonds.length; i++) {
            Check.due("see", x.see(diamonds[i][0], diamonds[i][1]), i + 3);
        }
        Check.due("the seventeenth", x.see(1, 2), -1);
        Check.due("waves", x.waves(0, 8, 0), 4);
        Check.due("ways", x.waves(0, 8, 1), 6);
        Check.due("waves", x.waves(0, 4, 1), 3);
        Check.due("waves", x.waves(9, 8, 0), 4);
        Check.due("ways", x.waves(9, 8, 1), 2);
        Check.due("waves(0, 8, 2)", x.waves(0, 8, 2), -1);
        Check.due("waves(0, 8, -1)", x.waves(0, 8, -1), -1);
        Check.due("waves(0, 0, 0)", x.waves(0, 0, 0), -1);
        Check.due("waves(0, 12, 0)", x.waves(0, 12, 0), -1);
        Check.due("waves(-1, 0, 0)", x.waves(-1, 0, 0), -1);
        Check.due("nothing then", x.see(-1, 99), 0);
        Check.due("no way", x.waves(0, 8, 0), -1);
        for (int a = 0; a < 11; a++) {
            x.see(a, a + 1);
        }
        Check.due("all wave", x.waves(0, 11, 0), 10);
        x.see(5, 0);
        Check.due("back", x.waves(3, 1, 0), 3);
    }

    private static void bears() {
        DeafBells x = new DeafBells();
        for (int b = 0; b < 8; b++) {
            x.set(0, b, 10 * b + 5);
        }
        Check.due("none at all", x.bears(4, 0), 0);
        Check.due("one way of none", x.bears(4, 1), 1);
        Check.due("HEAVY of none", x.bears(4, 2), 0);
        Check.due("bears(5, 0)", x.bears(5, 0), 1);
        Check.due("bears(5, 1)", x.bears(5, 1), 1);
        Check.due("bears(30, 0)", x.bears(30, 0), 2);
        Check.due("5+15, 5+25", x.bears(30, 1), 2);
        Check.due("bears(30, 2)", x.bears(30, 2), 30);
        Check.due("bears(39, 1)", x.bears(39, 1), 2);
        Check.due("5+35, 15+25 too", x.bears(40, 1), 4);
        Check.due("all", x.bears(800, 0), 8);
        Check.due("all", x.bears(320, 0), 8);
        Check.due("bears(320, 1)", x.bears(320, 1), 1);
        Check.due("bears(320, 2)", x.bears(800, 2), 320);
        Check.due("all but one", x.bears(319, 1), 8);
        Check.due("all but one", x.bears(319, 2), 315);
        Check.due("bears(0, 0)", x.bears(0, 0), -1);
        Check.due("bears(801, 0)", x.bears(801, 0), -1);
        Check.due("bears(-1, 0)", x.bears(-1, 0), -1);
        Check.due("bears(1, 3)", x.bears(1, 3), -1);
        Check.due("bears(1, -1)", x.bears(1, -1), -1);
    }

    private static void pigeons() {
        DeafBells x = new DeafBells();
        Check.due("pigeon(-2)", x.pigeon(-2), -1);
        Check.due("pigeon(100)", x.pigeon(100), -1);
        Check.due("best(1, 0)", x.best(1, 0), -1);
        for (int i = 1; i <= 24; i++) {
            Check.due("pigeon", x.pigeon(i == 1 || i == 24 || i == 10 ? 99 : 0), i);
        }
        Check.due("the twenty-fifth", x.pigeon(0), -1);
        Check.due("best(1, 0)", x.best(1, 0), 99);
        Check.due("the first", x.best(1, 1), 0);
        Check.due("round", x.best(2, 0), 198);
        Check.due("round", x.best(2, 1), 23);
        Check.due("best(3, 1)", x.best(3, 1), 22);
        Check.due("best(11, 0)", x.best(11, 0), 297);
        Check.due("best(11, 1)", x.best(11, 1), 23);
        Check.due("best(24, 0)", x.best(24, 0), 297);
        Check.due("best(24, 1)", x.best(24, 1), 0);
        Check.due("best(25, 0)", x.best(25, 0), -1);
        Check.due("best(0, 0)", x.best(0, 0), -1);
        Check.due("best(-1, 0)", x.best(-1, 0), -1);
        Check.due("best(1, 2)", x.best(1, 2), -1);
        Check.due("best(1, -1)", x.best(1, -1), -1);
        Check.due("none then", x.pigeon(-1), 0);
        Check.due("pigeon(0)", x.pigeon(0), 1);
        Check.due("best of 0", x.best(1, 0), 0);
        Check.due("best of 0", x.best(1, 1), 0);
        Check.due("best(2, 0)", x.best(2, 0), -1);
    }

    private static void strangers() {
        DeafBells x = new DeafBells();
        int[][] bad = {{3, 3}, {-2, 0}, {10, 0}, {0, -1}, {0, 10}};
        for (int[] b : bad) {
            Check.due("stranger out of bounds", x.stranger(b[0], b[1]), -1);
        }
        for (int a = 0; a < 9; a++) {
            Check.due("stranger", x.stranger(a + 1, a), a + 1);
        }
        Check.due("a chain from its end", x.heard(0, 0), 9);
        Check.due("a chain from its middle", x.heard(4, 0), 5);
        Check.due("all", x.heard(9, 1), 10);
        Check.due("SPLITS", x.heard(99, 2), 0x1fe);
        Check.due("a ring", x.stranger(0, 9), 10);
        Check.due("rounds", x.heard(0, 0), 5);
        Check.due("SPLITS", x.heard(-1, 2), 0);
        for (int i = 11; i <= 20; i++) {
            Check.due("again and again", x.stranger(0, 1), i);
        }
        Check.due("the twenty-first", x.stranger(0, 1), -1);
        Check.due("heard(10, 0)", x.heard(10, 0), -1);
        Check.due("heard(-1, 1)", x.heard(-1, 1), -1);
        Check.due("heard(0, 3)", x.heard(0, 3), -1);
        Check.due("heard(0, -1)", x.heard(0, -1), -1);
        Check.due("nothing then", x.stranger(-1, 99), 0);
        Check.due("alone", x.heard(0, 0), 0);
        Check.due("alone", x.heard(0, 1), 1);
        int[][] bow = {{0, 1}, {1, 2}, {2, 0}, {2, 3}, {3, 4}, {4, 2}, {5, 6}, {7, 8}, {8, 9}};
        for (int[] c : bow) {
            x.stranger(c[0], c[1]);
        }
        Check.due("2 of the bow, 8 of the chain", x.heard(0, 2), 4 + 256);
        Check.due("rounds", x.heard(1, 0), 2);
        Check.due("how many", x.heard(1, 1), 5);
        Check.due("rounds", x.heard(2, 0), 1);
        Check.due("how many", x.heard(6, 1), 2);
    }

    private static void feeds() {
        DeafBells x = new DeafBells();
        Check.due("feeds(0)", x.feeds(0), 0);
        Check.due("feeds(10)", x.feeds(10), -1);
        int[] arms = {3, 9, 0, 3};
        int[] hungers = {4, 0, 7, 99};
        for (int r = 0; r < 4; r++) {
            x.ringer(0, 0, arms[r]);
            x.set(5, r, hungers[r]);
        }
        // 7, 9, 7, 102
        int[] order = {3, 1, 0, 2};
        Check.due("feeds(0)", x.feeds(0), 102 + 2 * 9 + 3 * 7 + 4 * 7);
        for (int i = 0; i < 4; i++) {
            Check.due("feeds(10 + " + i + ")", x.feeds(10 + i), order[i]);
        }
        Check.due("feeds(14)", x.feeds(14), -1);
        Check.due("feeds(1)", x.feeds(1), -1);
        Check.due("feeds(9)", x.feeds(9), -1);
        Check.due("feeds(-1)", x.feeds(-1), -1);
        x.act(2, 3);
        Check.due("those asleep too", x.feeds(10), 3);
    }

    private static void casts() {
        DeafBells x = new DeafBells();
        Check.due("all alike", x.casts(0), 0);
        Check.due("all alike", x.casts(1), 0);
        Check.due("casts(2)", x.casts(2), -1);
        Check.due("casts(-1)", x.casts(-1), -1);
        x.set(0, 0, 2);
        Check.due("twice", x.casts(0), 0);
        x.set(0, 1, 3);
        Check.due("2 and 3", x.casts(0), 1);
        Check.due("the least set", x.casts(1), 1);
        x.set(0, 2, 2);
        Check.due("2, 3, 2", x.casts(1), 2);
        for (int b = 0; b < 8; b++) {
            x.set(0, b, 50 + b);
        }
        Check.due("all but one", x.casts(0), 7);
        Check.due("the least set", x.casts(1), 127);
        int[] octaves = {8, 64, 4, 32, 2, 16, 1, 96};
        for (int b = 0; b < 8; b++) {
            x.set(0, b, octaves[b]);
        }
        Check.due("64 and 96", x.casts(1), 2);
    }

    private static void peals() {
        DeafBells x = new DeafBells();
        int[][] bad = {{-1, 0}, {10, 0}, {0, -10}, {0, 10}};
        for (int[] b : bad) {
            Check.due("opinion out of bounds", x.opinion(b[0], b[1]), false);
        }
        Check.due("opinion of one who is not", x.opinion(9, -9), true);
        Check.due("peals(0)", x.peals(0), 0);
        Check.due("peals(19)", x.peals(19), -100);
        int[] opinions = {3, -2, 0, 5};
        for (int r = 0; r < 4; r++) {
            x.opinion(r, opinions[r]);
            x.ringer(0, 0, 0);
        }
        Check.due("peals(0)", x.peals(0), 6);
        // without the one of 0: {3} {5} {3 -2} {5 -2} {3 5} {3 5 -2}
        Check.due("SWINGS", x.peals(1), 12);
        Check.due("TURNS", x.peals(10), 4);
        Check.due("TURNS", x.peals(11), 0);
        Check.due("TURNS", x.peals(12), 0);
        Check.due("TURNS", x.peals(13), 4);
        Check.due("peals(14)", x.peals(14), -100);
        Check.due("peals(2)", x.peals(2), -100);
        Check.due("peals(9)", x.peals(9), -100);
        Check.due("peals(-1)", x.peals(-1), -100);
        x.act(2, 3);
        Check.due("those asleep not", x.peals(0), 1);
        Check.due("SWINGS", x.peals(1), 4);
        Check.due("TURNS", x.peals(10), 4);
        Check.due("TURNS of one asleep", x.peals(13), 0);
        for (int r = 4; r < 10; r++) {
            x.ringer(0, 0, 0);
        }
        x.act(1, 3);
        for (int r = 0; r < 10; r++) {
            x.opinion(r, 9);
        }
        Check.due("peals(0)", x.peals(0), 90);
        Check.due("all but the empty set", x.peals(1), 1023);
        Check.due("he alone", x.peals(19), 1);
        for (int r = 0; r < 10; r++) {
            x.opinion(r, -9);
        }
        Check.due("peals(0)", x.peals(0), -90);
        Check.due("never", x.peals(1), 0);
        x.opinion(0, 9);
        Check.due("{0} alone", x.peals(1), 1);
    }

    private static void game() {
        DeafBells x = new DeafBells();
        Check.due("no RINGER", x.game(0), -1);
        x.ringer(0, 0, 0);
        Check.due("TIRED 0", x.game(0), -1);
        // nimbers 0 1 0 2 1 2 0 1 0 2 1, by hand
        int[] loosed = {-1, 1, -1, 1, 2, 3, -1, 1, -1, 1, 2};
        for (int h = 1; h <= 10; h++) {
            x.set(6, 0, h);
            int move = x.game(1);
            Check.due("game of " + h, move, aloneMove(h));
            Check.due("RINGER", x.game(0), move == -1 ? -1 : 0);
        }
        Check.due("by hand, 5", aloneMove(5), loosed[5]);
        Check.due("by hand, 2", aloneMove(2), loosed[2]);
        x.ringer(0, 0, 0);
        x.set(6, 0, 1);
        x.set(6, 1, 1);
        Check.due("1 and 1", x.game(0), -1);
        Check.due("1 and 1", x.game(1), -1);
        x.set(6, 0, 2);
        Check.due("2 and 1: 1 and 1 is left", x.game(0), 0);
        Check.due("2 and 1", x.game(1), 1);
        x.set(6, 0, 3);
        Check.due("3 and 1: 2 of the first", x.game(0), 0);
        Check.due("3 and 1", x.game(1), 2);
        x.act(2, 0);
        Check.due("those asleep too", x.game(1), 2);
        Check.due("game(2)", x.game(2), -1);
        Check.due("game(-1)", x.game(-1), -1);
    }

    // The fewest to loose of one heap so that the other loses, by trying all.
    private static int aloneMove(int h) {
        boolean[] wins = new boolean[h + 1];
        for (int i = 1; i <= h; i++) {
            wins[i] = !wins[i - 1] || !wins[i / 2];
        }
        if (!wins[h]) {
            return -1;
        }
        return !wins[h - 1] ? 1 : h - h / 2;
    }
}
