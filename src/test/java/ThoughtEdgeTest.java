/** Sentences of the document that name an edge: section 4 of the terms but UNDO and THE IMAGE, promises 17 to 36. */
final class ThoughtEdgeTest {
    private static final int NONE = -1;

    private ThoughtEdgeTest() {
    }

    public static void main(String[] args) {
        pealWithoutChanges();
        placesLeftOut();
        longAndTrue();
        rowEnds();
        signsFull();
        meantTies();
        apart();
        roundsFull();
        togetherEnds();
        holdsWays();
        holdsRingers();
        seesFull();
        wavesBetween();
        bearsEnds();
        pigeonsFull();
        bestRound();
        strangersFull();
        heardRounds();
        splits();
        feedsOrder();
        castsBounds();
        opinions();
        turns();
        game();
        gameOfMany();
        oneThoughtBehindAnother();
        Check.finish("ThoughtEdgeTest");
    }

    private static DeafBells with(int ringers) {
        DeafBells x = new DeafBells();
        for (int r = 0; r < ringers; r++) {
            x.ringer(0, 0, 0);
        }
        return x;
    }

    private static DeafBells changes(String text, int lines) {
        DeafBells x = new DeafBells();
        Check.tell(x, 3, text, lines);
        return x;
    }

    private static void pealWithoutChanges() {
        Check.sentence("PEAL what 0 LONG (NONE: not by 9999, or without CHANGES), 1 TRUE (without CHANGES 1).");
        DeafBells x = new DeafBells();
        DeafBells told = changes("swap 0;", 1);
        Check.tell(told, 3, "", 0);
        for (int n = 2; n <= 8; n++) {
            Check.due("LONG of " + n, x.peal(n, 0), NONE);
            Check.due("TRUE of " + n, x.peal(n, 1), 1);
            Check.due("LONG of " + n + ", told empty", told.peal(n, 0), NONE);
            Check.due("TRUE of " + n + ", told empty", told.peal(n, 1), 1);
        }
        for (int n : new int[] {1, 0, -1, 9, Integer.MIN_VALUE, Integer.MAX_VALUE}) {
            Check.due("LONG of " + n, x.peal(n, 0), NONE);
            Check.due("TRUE of " + n, x.peal(n, 1), NONE);
        }
        Check.sentence("NONE if one can't be (without CHANGES: beyond row 0)");
        for (int n = 2; n <= 8; n++) {
            for (int place = 0; place < n; place++) {
                Check.due("row 0", x.row(n, 0, place), place);
                Check.due("row 1", x.row(n, 1, place), NONE);
            }
            Check.due("row 999", x.row(n, 999, 0), NONE);
            Check.due("no such place", x.row(n, 0, n), NONE);
        }
    }

    private static void placesLeftOut() {
        Check.sentence("(places beyond n - 2 are left out)");
        for (int place = 0; place <= 6; place++) {
            DeafBells x = changes("swap " + place + ";", 1);
            for (int n = 2; n <= 8; n++) {
                boolean moves = place <= n - 2;
                Check.due("LONG of " + n + " by " + place, x.peal(n, 0), moves ? 2 : 1);
                Check.due("TRUE of " + n + " by " + place, x.peal(n, 1), moves ? 2 : 1);
                for (int p = 0; p < n; p++) {
                    int want = moves && p == place ? p + 1 : moves && p == place + 1 ? p - 1 : p;
                    Check.due("row(" + n + ", 1, " + p + ") by " + place, x.row(n, 1, p), want);
                }
            }
        }
        DeafBells y = changes("swap 0 2 6;", 1);
        Check.due("the rest of the line stays", y.row(4, 1, 3), 2);
        Check.due("the rest of the line stays", y.row(3, 1, 2), 2);
        Check.due("the rest of the line stays", y.row(3, 1, 0), 1);
    }

    private static void longAndTrue() {
        Check.sentence("LONG: behind how many rows rounds come again first; TRUE: how many rows come until one was there already (rounds count; that one not)");
        String[] texts = {"swap 0;", "swap 0;swap 0;", "swap 0;swap 1;", "swap 0;swap 1;swap 1;swap 0;", "swap 0;swap 1;swap 1;", "swap 0 2;swap 1;swap 0 2;swap 1;"};
        int[][] want = {{2, 2}, {2, 2}, {6, 6}, {4, 3}, {4, 3}, {8, 8}};
        for (int i = 0; i < texts.length; i++) {
            DeafBells x = changes(texts[i], texts[i].length() - texts[i].replace(";", "").length());
            Check.due("LONG of " + texts[i], x.peal(4, 0), want[i][0]);
            Check.due("TRUE of " + texts[i], x.peal(4, 1), want[i][1]);
        }
        Check.sentence("then a row for each line of CHANGES in their order, again and again");
        DeafBells y = changes("swap 0;swap 1;swap 2;", 3);
        int[][] rows = {{0, 1, 2, 3}, {1, 0, 2, 3}, {1, 2, 0, 3}, {1, 2, 3, 0}, {2, 1, 3, 0}, {2, 3, 1, 0}, {2, 3, 0, 1}};
        for (int i = 0; i < rows.length; i++) {
            for (int place = 0; place < 4; place++) {
                Check.due("row(4, " + i + ", " + place + ")", y.row(4, i, place), rows[i][place]);
            }
        }
        Check.due("LONG", y.peal(4, 0), 12);
    }

    private static void rowEnds() {
        Check.sentence("ROW i (0 .. 999): the bell at a place then");
        DeafBells first = changes("swap 0;swap 1;", 2);
        Check.due("TRUE asked first of all", first.peal(3, 1), 6);
        DeafBells x = changes("swap 0;swap 1;", 2);
        // six rows round: 999 is the third of them
        int[] third = {2, 1, 0};
        for (int place = 0; place < 3; place++) {
            Check.due("row 3", x.row(3, 3, place), third[place]);
            Check.due("row 999", x.row(3, 999, place), third[place]);
            Check.due("row 998", x.row(3, 998, place), new int[] {1, 2, 0}[place]);
            Check.due("row 1000", x.row(3, 1000, place), NONE);
            Check.due("row -1", x.row(3, -1, place), NONE);
        }
    }

    private static void signsFull() {
        Check.sentence("A SIGN (strokes NONE: none is then): how many; NONE if one can't be (0 .. 65535), or there are ten.");
        DeafBells x = new DeafBells();
        for (int i = 1; i <= 10; i++) {
            Check.due("sign", x.sign(1 << i, i), i);
        }
        Check.due("the eleventh", x.sign(0, 99), NONE);
        Check.due("it is not there", x.meant(0, 1), 1);
        Check.due("ten are", x.meant(1 << 10, 0), 10);
        Check.due("none then", x.sign(NONE, -7), 0);
        Check.due("none is meant", x.meant(1 << 10, 0), NONE);
        Check.due("none is unlike", x.meant(1 << 10, 1), NONE);
        Check.due("none is APART", x.meant(0, 2), NONE);
        Check.due("none goes wrong", x.meant(0, 3), NONE);
        Check.due("told anew", x.sign(65535, 0), 1);
        Check.due("the new one", x.meant(1 << 10, 1), 15);
    }

    private static void meantTies() {
        Check.sentence("MEANT by strokes: that of the sign from which fewest are unlike (of several the first told); how many");
        DeafBells x = new DeafBells();
        x.sign(0b0011, 1);
        x.sign(0b0101, 2);
        x.sign(0b0110, 3);
        x.sign(0b0011, 4);
        Check.due("all one off", x.meant(0b0111, 0), 1);
        Check.due("the second", x.meant(0b1101, 0), 2);
        Check.due("the third", x.meant(0b0110, 0), 3);
        Check.due("none off", x.meant(0b0110, 1), 0);
        Check.due("told again", x.meant(0b0011, 0), 1);
        Check.due("the highest stroke counts", x.meant(0x8003, 1), 1);
        Check.due("all off but two", x.meant(65535, 1), 14);
    }

    private static void apart() {
        Check.sentence("APART: the fewest unlike between two told; how many can go wrong so that each is found still (of APART one less, by 2; 0 at least)");
        for (int many = 0; many <= 16; many++) {
            DeafBells x = new DeafBells();
            x.sign((1 << many) - 1, 0);
            Check.due("APART of one", x.meant(0, 2), NONE);
            Check.due("wrong of one", x.meant(0, 3), NONE);
            x.sign(0, 1);
            Check.due("APART", x.meant(0, 2), many);
            Check.due("wrong of APART " + many, x.meant(0, 3), many == 0 ? 0 : (many - 1) / 2);
        }
        DeafBells y = new DeafBells();
        y.sign(0, 0);
        y.sign(0b111111, 0);
        y.sign(0b111, 0);
        Check.due("the fewest", y.meant(0, 2), 3);
        y.sign(0b110000, 0);
        Check.due("the fewest", y.meant(0, 2), 2);
        y.sign(0b110000, 0);
        Check.due("the same twice", y.meant(0, 2), 0);
    }

    private static void roundsFull() {
        Check.sentence("A ROUND (hours NONE: none is then): how many; NONE if one can't be, or there are six.");
        DeafBells x = new DeafBells();
        for (int i = 1; i <= 6; i++) {
            Check.due("round", x.round(1, 0), i);
        }
        Check.due("the seventh", x.round(12, 11), NONE);
        Check.due("six ring", x.together(11), 6);
        Check.due("none then", x.round(NONE, 99), 0);
        Check.due("none rings", x.together(11), 0);
        Check.due("never", x.together(NONE), NONE);
        Check.due("told anew", x.round(12, 11), 1);
        Check.due("it rings", x.together(NONE), 11);
    }

    private static void togetherEnds() {
        Check.sentence("TOGETHER: the first hour 0 .. 27719 at which all ring; how many ring at an hour told (0 .. 9999).");
        DeafBells x = new DeafBells();
        int[] hours = {12, 11, 10, 9, 8, 7};
        for (int h : hours) {
            x.round(h, h - 1);
        }
        Check.due("the last of all hours", x.together(NONE), 27719);
        x.round(NONE, 0);
        for (int h : hours) {
            x.round(h, 0);
        }
        Check.due("the first of all", x.together(NONE), 0);
        Check.due("at 0", x.together(0), 6);
        Check.due("at 1", x.together(1), 0);
        Check.due("at 9999", x.together(9999), 2);
        Check.due("at 9240", x.together(9240), 5);
        Check.due("at 10000", x.together(10000), NONE);
        Check.due("at -2", x.together(-2), NONE);
        Check.sentence("TOGETHER (hour NONE; NONE: never, or no ROUNDS)");
        x.round(NONE, 0);
        x.round(2, 0);
        x.round(4, 1);
        Check.due("never", x.together(NONE), NONE);
        x.round(NONE, 0);
        x.round(12, 3);
        x.round(12, 3);
        x.round(3, 0);
        Check.due("all the same", x.together(NONE), 3);
        x.round(4, 2);
        Check.due("never", x.together(NONE), NONE);
        Check.due("none told", new DeafBells().together(NONE), NONE);
    }

    private static void holdsWays() {
        Check.sentence("so that the least number is greatest: that; whose BELL is which: of several ways the first (RINGER by RINGER, the lesser)");
        DeafBells x = with(3);
        for (int r = 0; r < 3; r++) {
            Check.due("all alike", x.holds(10 + r), r);
        }
        x.hold(2, 0, 5);
        x.hold(1, 7, 5);
        x.hold(0, 0, 9);
        Check.due("one has none", x.holds(0), 0);
        Check.due("then the first way", x.holds(10), 0);
        Check.due("then the first way", x.holds(11), 1);
        x.hold(0, 6, 5);
        x.hold(0, 3, 99);
        Check.due("five", x.holds(0), 5);
        Check.due("of 3 and 6 the lesser, though 6 is enough", x.holds(10), 3);
        Check.due("the last BELL", x.holds(11), 7);
        Check.due("so 0 is left for him", x.holds(12), 0);
        x.hold(0, 1, 5);
        Check.due("the lesser, though it holds less", x.holds(10), 1);
        DeafBells y = with(1);
        y.hold(0, 7, 99);
        Check.due("the most", y.holds(0), 99);
        Check.due("the last BELL", y.holds(10), 7);
    }

    private static void holdsRingers() {
        Check.sentence("(all RINGERS, each his own; more than eight: none)");
        for (int many = 0; many <= 10; many++) {
            DeafBells x = with(many);
            for (int r = 0; r < 10; r++) {
                for (int b = 0; b < 8; b++) {
                    x.hold(r, b, 20 + r);
                }
            }
            boolean can = many > 0 && many <= 8;
            Check.due("holds(0) of " + many, x.holds(0), can ? 20 : NONE);
            for (int r = 0; r < 10; r++) {
                Check.due("BELL of " + r + " of " + many, x.holds(10 + r), can && r < many ? r : NONE);
            }
            Check.due("holds(20)", x.holds(20), NONE);
            Check.due("holds(9)", x.holds(9), NONE);
        }
        DeafBells y = with(2);
        y.hold(0, 0, 4);
        y.act(2, 1);
        Check.due("those asleep too", y.holds(0), 0);
        Check.due("those asleep too", y.holds(11), 1);
    }

    private static void seesFull() {
        Check.sentence("SEES is told (a NONE: nothing is then): how many; NONE if one can't be (alike), or there are sixteen.");
        DeafBells x = new DeafBells();
        for (int i = 1; i <= 16; i++) {
            Check.due("see", x.see(i % 11, 11), i);
        }
        Check.due("the seventeenth", x.see(11, 0), NONE);
        Check.due("it is not there", x.waves(11, 0, 0), NONE);
        Check.due("nothing then", x.see(NONE, 50), 0);
        Check.due("no way", x.waves(1, 11, 0), NONE);
        Check.due("told anew", x.see(11, 0), 1);
        Check.due("it is there", x.waves(11, 0, 0), 0);
    }

    private static void wavesBetween() {
        Check.sentence("WAVES from a to b: the fewest who must wave between (0 if a sees b); in how many ways so few");
        DeafBells x = new DeafBells();
        x.see(0, 11);
        Check.due("a sees b", x.waves(0, 11, 0), 0);
        Check.due("in one way", x.waves(0, 11, 1), 1);
        Check.due("one way alone", x.waves(11, 0, 0), NONE);
        for (int a = 0; a < 10; a++) {
            x.see(a, a + 1);
        }
        x.see(10, 11);
        Check.due("still 0", x.waves(0, 11, 0), 0);
        Check.due("still one way so few", x.waves(0, 11, 1), 1);
        Check.due("nine wave", x.waves(1, 11, 0), 9);
        DeafBells y = new DeafBells();
        for (int a = 0; a < 11; a++) {
            y.see(a, a + 1);
        }
        Check.due("all the others wave", y.waves(0, 11, 0), 10);
        Check.due("in one way", y.waves(0, 11, 1), 1);
        DeafBells z = new DeafBells();
        for (int a = 1; a <= 8; a++) {
            z.see(0, a);
            z.see(a, 9);
        }
        Check.due("one waves", z.waves(0, 9, 0), 1);
        Check.due("in eight ways", z.waves(0, 9, 1), 8);
        DeafBells w = new DeafBells();
        int[][] steps = {{0, 1}, {0, 2}, {0, 3}, {1, 4}, {2, 4}, {3, 4}, {1, 5}, {2, 5}, {3, 5}, {4, 6}, {5, 6}, {6, 7}, {6, 8}, {7, 9}, {8, 9}, {1, 0}};
        for (int[] s : steps) {
            w.see(s[0], s[1]);
        }
        Check.due("four wave", w.waves(0, 9, 0), 4);
        Check.due("ways of each step times the others", w.waves(0, 9, 1), 12);
        Check.due("alike", w.waves(0, 0, 0), NONE);
        Check.due("alike, though there is a way round", w.waves(1, 1, 1), NONE);
    }

    private static void bearsEnds() {
        Check.sentence("BEARS of w (1 .. 800): BELLS with HEAVY of w together at most: how many at most; in how many ways so many; the greatest HEAVY of one such.");
        DeafBells x = new DeafBells();
        int[] ways = {8, 28, 56, 70, 56, 28, 8, 1, 1};
        for (int w = 1; w <= 9; w++) {
            Check.due("how many of " + w, x.bears(w, 0), Math.min(8, w));
            Check.due("ways of " + w, x.bears(w, 1), ways[w - 1]);
            Check.due("HEAVY of " + w, x.bears(w, 2), Math.min(8, w));
        }
        for (int b = 0; b < 8; b++) {
            x.set(0, b, 99);
        }
        int[][] want = {{1, 0, 1, 0}, {98, 0, 1, 0}, {99, 1, 8, 99}, {197, 1, 8, 99}, {198, 2, 28, 198}, {791, 7, 8, 693}, {792, 8, 1, 792}, {800, 8, 1, 792}};
        for (int[] v : want) {
            for (int what = 0; what < 3; what++) {
                Check.due("bears(" + v[0] + ", " + what + ")", x.bears(v[0], what), v[1 + what]);
            }
        }
        for (int b = 0; b < 8; b++) {
            x.set(0, b, b < 4 ? 10 : 60);
        }
        int[][] mixed = {{89, 4, 1, 40}, {90, 4, 17, 90}, {99, 4, 17, 90}, {100, 5, 4, 100}};
        for (int[] v : mixed) {
            for (int what = 0; what < 3; what++) {
                Check.due("bears(" + v[0] + ", " + what + ")", x.bears(v[0], what), v[1 + what]);
            }
        }
        x.set(0, 0, 11);
        Check.due("the greatest of them", x.bears(30, 2), 30);
        Check.due("the greatest of them", x.bears(31, 2), 31);
        Check.due("ways", x.bears(30, 1), 1);
        Check.due("ways", x.bears(31, 1), 4);
    }

    private static void pigeonsFull() {
        Check.sentence("PIGEONS: an hour more (NONE: none is then): how many; NONE if one can't be, or there are twenty-four.");
        DeafBells x = new DeafBells();
        for (int i = 1; i <= 24; i++) {
            Check.due("pigeon", x.pigeon(i), i);
        }
        Check.due("the twenty-fifth", x.pigeon(99), NONE);
        Check.due("it is not there", x.best(1, 0), 24);
        Check.due("all", x.best(24, 0), 300);
        Check.due("none then", x.pigeon(NONE), 0);
        Check.due("none is best", x.best(1, 0), NONE);
        Check.due("told anew", x.pigeon(0), 1);
        Check.due("best", x.best(1, 0), 0);
        Check.due("where", x.best(1, 1), 0);
    }

    private static void bestRound() {
        Check.sentence("BEST of n (1 .. 24) hours one behind the other (each once): the greatest sum; where it begins (of several the first)");
        DeafBells x = new DeafBells();
        int[] told = {9, 0, 0, 5, 8};
        for (int v : told) {
            x.pigeon(v);
        }
        int[][] want = {{9, 0}, {17, 4}, {22, 3}, {22, 2}, {22, 0}};
        for (int n = 1; n <= 5; n++) {
            Check.due("the sum of " + n, x.best(n, 0), want[n - 1][0]);
            Check.due("where of " + n, x.best(n, 1), want[n - 1][1]);
        }
        Check.due("each once", x.best(6, 0), NONE);
        Check.due("each once", x.best(6, 1), NONE);
        Check.due("none", x.best(0, 0), NONE);
        x.pigeon(NONE);
        for (int i = 0; i < 24; i++) {
            x.pigeon(7);
        }
        Check.due("of several the first", x.best(23, 1), 0);
        Check.due("best(24, 0)", x.best(24, 0), 168);
        Check.due("best(25, 0)", x.best(25, 0), NONE);
    }

    private static void strangersFull() {
        Check.sentence("STRANGER: up to 20 told couples a, b (0 .. 9; unlike) who tell each other.");
        DeafBells x = new DeafBells();
        for (int i = 1; i <= 20; i++) {
            Check.due("stranger", x.stranger(0, 1 + i % 8), i);
        }
        Check.due("the twenty-first", x.stranger(0, 9), NONE);
        Check.due("it is not there", x.heard(9, 1), 1);
        Check.due("nine know", x.heard(0, 1), 9);
        Check.due("each other", x.heard(8, 1), 9);
        Check.due("nothing then", x.stranger(NONE, NONE), 0);
        Check.due("none tells", x.heard(0, 1), 1);
        Check.due("told anew", x.stranger(0, 9), 1);
        Check.due("it is there", x.heard(9, 1), 2);
    }

    private static void heardRounds() {
        Check.sentence("HEARD: behind how many rounds (each who knows tells all his at once) all that can know it know it, from one; how many know it then");
        DeafBells x = new DeafBells();
        for (int p = 0; p < 10; p++) {
            Check.due("rounds of one alone", x.heard(p, 0), 0);
            Check.due("he knows it", x.heard(p, 1), 1);
        }
        for (int a = 9; a > 0; a--) {
            x.stranger(a, a - 1);
        }
        for (int p = 0; p < 10; p++) {
            Check.due("rounds of the chain from " + p, x.heard(p, 0), Math.max(p, 9 - p));
            Check.due("all know it", x.heard(p, 1), 10);
        }
        DeafBells y = new DeafBells();
        for (int a = 1; a < 10; a++) {
            y.stranger(4, a == 4 ? 0 : a);
        }
        Check.due("at once", y.heard(4, 0), 1);
        Check.due("by one", y.heard(7, 0), 2);
        Check.due("all", y.heard(7, 1), 10);
    }

    private static void splits() {
        Check.sentence("SPLITS: those without whom not all others that are told of could tell one another (by whom parts come apart that were one): a set");
        DeafBells x = new DeafBells();
        Check.due("nothing told", x.heard(0, 2), 0);
        x.stranger(0, 1);
        Check.due("two", x.heard(0, 2), 0);
        x.stranger(8, 9);
        Check.due("two parts, none comes apart", x.heard(0, 2), 0);
        x.stranger(1, 2);
        Check.due("the one between", x.heard(0, 2), 2);
        x.stranger(0, 2);
        Check.due("round", x.heard(0, 2), 0);
        x.stranger(2, 9);
        Check.due("2 and 9", x.heard(0, 2), 4 + 512);
        x.stranger(0, 8);
        Check.due("another way", x.heard(0, 2), 0);
        for (int middle = 0; middle < 10; middle++) {
            DeafBells y = new DeafBells();
            for (int a = 0; a < 10; a++) {
                y.stranger(middle, a);
            }
            Check.due("the middle of a star", y.heard(0, 2), 1 << middle);
        }
    }

    private static void feedsOrder() {
        Check.sentence("so that the sum over them of HUNGER and ARM together, times the hour (1 the first), is least: the i-th (of several orders the first); that sum");
        DeafBells x = new DeafBells();
        Check.due("none", x.feeds(0), 0);
        Check.due("none", x.feeds(10), NONE);
        int[][] told = {{5, 1}, {0, 9}, {6, 0}, {99, 9}, {0, 0}, {4, 2}};
        for (int r = 0; r < told.length; r++) {
            x.ringer(0, 0, told[r][1]);
            x.set(5, r, told[r][0]);
        }
        int[] order = {3, 1, 0, 2, 5, 4};
        for (int i = 0; i < order.length; i++) {
            Check.due("the " + i + "-th", x.feeds(10 + i), order[i]);
        }
        Check.due("beyond", x.feeds(16), NONE);
        Check.due("the sum", x.feeds(0), 108 + 2 * 9 + 3 * 6 + 4 * 6 + 5 * 6);
        DeafBells y = with(10);
        for (int r = 0; r < 10; r++) {
            Check.due("all alike", y.feeds(10 + r), r);
            y.set(5, r, 99);
        }
        Check.due("all alike", y.feeds(19), 9);
        Check.due("the sum", y.feeds(0), 99 * 55);
        Check.due("beyond", y.feeds(20), NONE);
    }

    private static void castsBounds() {
        Check.sentence("BELLS i, j beat against another if HEAVY of one is above that of the other, but below twice that");
        int[][] pairs = {{5, 5, 0}, {5, 6, 1}, {6, 5, 1}, {5, 9, 1}, {5, 10, 0}, {10, 5, 0}, {9, 5, 1}, {5, 11, 0}, {1, 2, 0}, {2, 3, 1}, {49, 98, 0}, {50, 99, 1}, {99, 49, 0}};
        for (int[] p : pairs) {
            DeafBells x = new DeafBells();
            for (int b = 0; b < 8; b++) {
                x.set(0, b, b == 7 ? p[1] : p[0]);
            }
            Check.due("how many of " + p[0] + " and " + p[1], x.casts(0), p[2]);
            Check.due("the set", x.casts(1), p[2] == 0 ? 0 : 128);
        }
        Check.sentence("the fewest BELLS to be cast anew so that none of the others beat: how many; the set (of several the least)");
        DeafBells y = new DeafBells();
        for (int b = 0; b < 8; b++) {
            y.set(0, b, b < 4 ? 10 : 11);
        }
        Check.due("four of either", y.casts(0), 4);
        Check.due("the least", y.casts(1), 15);
        for (int b = 0; b < 8; b++) {
            y.set(0, b, 99 - b);
        }
        Check.due("all but one", y.casts(0), 7);
        Check.due("the least", y.casts(1), 127);
    }

    private static void opinions() {
        Check.sentence("PEALS: the sum of it of all AWAKE; SWINGS: in how many sets of AWAKE ones the sum is above 0");
        DeafBells x = with(2);
        x.opinion(0, 9);
        x.opinion(1, -9);
        x.opinion(2, 9);
        Check.due("the third is not there", x.peals(0), 0);
        Check.due("{0} alone", x.peals(1), 1);
        x.act(2, 1);
        Check.due("the second sleeps", x.peals(0), 9);
        Check.due("{0}", x.peals(1), 1);
        x.act(2, 0);
        Check.due("all sleep", x.peals(0), 0);
        Check.due("no set but the empty one", x.peals(1), 0);
        Check.due("TURNS of one asleep", x.peals(10), 0);
        x.ringer(0, 0, 0);
        Check.due("the third comes", x.peals(0), 9);
        Check.due("{2}", x.peals(1), 1);
        DeafBells y = with(10);
        for (int r = 0; r < 10; r++) {
            y.opinion(r, r < 5 ? 9 : -9);
        }
        Check.due("the sum", y.peals(0), 0);
        // as many sets have more of the first five as of the others; 252 have as many of both
        Check.due("SWINGS", y.peals(1), (1024 - 252) / 2);
        for (int r = 0; r < 10; r++) {
            y.opinion(r, 0);
        }
        Check.due("0 is not above 0", y.peals(1), 0);
    }

    private static void turns() {
        Check.sentence("TURNS of a RINGER: in how many of these it is not without him");
        DeafBells x = with(3);
        x.opinion(0, 1);
        x.opinion(1, -1);
        x.opinion(2, 2);
        // above 0: {0} {2} {0 2} {1 2} {0 1 2}
        Check.due("SWINGS", x.peals(1), 5);
        Check.due("{0} alone", x.peals(10), 1);
        Check.due("never", x.peals(11), 0);
        Check.due("{2} {1 2} {0 1 2}", x.peals(12), 3);
        Check.due("none such", x.peals(13), -100);
        Check.due("none such", x.peals(20), -100);
        Check.due("another what", x.peals(9), -100);
        Check.due("another what", x.peals(-1), -100);
        x.act(2, 2);
        Check.due("not AWAKE", x.peals(12), 0);
        Check.due("{0}", x.peals(10), 1);
        Check.due("without any", new DeafBells().peals(10), -100);
        DeafBells y = with(10);
        y.opinion(9, 9);
        Check.due("he alone decides", y.peals(19), 512);
        Check.due("SWINGS", y.peals(1), 512);
        y.opinion(8, -8);
        Check.due("against -8 still", y.peals(19), 512);
        y.opinion(7, -1);
        Check.due("against -9 not", y.peals(19), 384);
        y.opinion(8, 1);
        Check.due("{7 9}, {9}, {7 8 9}, not {8 9}", y.peals(19), 384);
        for (int r = 0; r < 10; r++) {
            y.opinion(r, 9);
        }
        Check.due("all but the empty one", y.peals(1), 1023);
        Check.due("he alone", y.peals(10), 1);
        Check.due("the sum", y.peals(0), 90);
        for (int r = 1; r < 10; r++) {
            y.opinion(r, -9);
        }
        Check.due("the sum", y.peals(0), -72);
        Check.due("{0} alone", y.peals(1), 1);
        Check.due("{0} alone", y.peals(10), 1);
        Check.due("never", y.peals(19), 0);
    }

    private static void game() {
        Check.sentence("from TIRED of RINGERS two by turns loose 1, or half of one's upwards; who looses the last one of all wins: the RINGER (of several the least), how many (the fewest) who begins well looses");
        boolean[] wins = new boolean[100];
        DeafBells x = with(1);
        Check.due("none is left: who begins loses", x.game(0), NONE);
        for (int h = 1; h <= 99; h++) {
            // 99 can't be told, but pulled to
            x.set(6, 0, Math.min(98, h));
            Check.due("pulled to 99", h < 99 || x.pull(0) == 1, true);
            int half = h / 2 + h % 2;
            wins[h] = !wins[h - 1] || !wins[h - half];
            int many = !wins[h] ? NONE : !wins[h - 1] ? 1 : half;
            Check.due("how many of " + h, x.game(1), many);
            Check.due("RINGER of " + h, x.game(0), many == NONE ? NONE : 0);
        }
        DeafBells y = with(10);
        Check.due("no RINGER is tired", y.game(1), NONE);
        y.set(6, 9, 1);
        Check.due("the last", y.game(0), 9);
        Check.due("one", y.game(1), 1);
        y.set(6, 3, 1);
        Check.due("two alike: who begins loses", y.game(0), NONE);
        y.set(6, 5, 1);
        Check.due("of several the least", y.game(0), 3);
        y.set(6, 3, 98);
        y.set(6, 5, 98);
        Check.due("two alike and one", y.game(1), 1);
        y.act(2, 9);
        Check.due("those asleep too", y.game(1), 1);
    }

    // Whether who begins wins, by trying all.
    private static boolean wins(int[] tired) {
        for (int r = 0; r < tired.length; r++) {
            for (int many : new int[] {1, tired[r] - tired[r] / 2}) {
                if (tired[r] > 0 && !wins(less(tired, r, many))) {
                    return true;
                }
            }
        }
        return false;
    }

    private static int[] less(int[] tired, int r, int many) {
        int[] left = tired.clone();
        left[r] -= many;
        return left;
    }

    private static void gameOfMany() {
        Check.sentence("NONE if who begins loses");
        for (int a = 0; a <= 7; a++) {
            for (int b = 0; b <= 7; b++) {
                for (int c = 0; c <= 3; c++) {
                    int[] tired = {a, b, c};
                    DeafBells x = with(3);
                    int ringer = NONE;
                    int many = NONE;
                    for (int r = 2; r >= 0; r--) {
                        x.set(6, r, tired[r]);
                        int half = tired[r] - tired[r] / 2;
                        boolean one = tired[r] > 0 && !wins(less(tired, r, 1));
                        boolean byHalf = tired[r] > 0 && !wins(less(tired, r, half));
                        ringer = one || byHalf ? r : ringer;
                        many = one ? 1 : byHalf ? half : many;
                    }
                    Check.due("RINGER of " + a + ", " + b + ", " + c, x.game(0), ringer);
                    Check.due("how many of " + a + ", " + b + ", " + c, x.game(1), many);
                }
            }
        }
    }

    private static int thought(DeafBells x, int i) {
        switch (i / 4) {
            case 0: return x.peal(i % 4 + 2, 0);
            case 1: return x.peal(i % 4 + 2, 1);
            case 2: return x.row(4, 3, i % 4);
            case 3: return x.meant(7, i % 4);
            case 4: return x.together(i % 4 - 1);
            case 5: return x.holds(i % 4 == 0 ? 0 : 9 + i % 4);
            case 6: return x.waves(0, i % 4 + 1, 1);
            case 7: return x.bears(60, i % 4);
            case 8: return x.best(i % 4, 1);
            case 9: return x.heard(i % 4, 0);
            case 10: return x.heard(1, i % 4);
            case 11: return x.feeds(i % 4 == 0 ? 0 : 9 + i % 4);
            case 12: return x.casts(i % 4);
            case 13: return x.peals(i % 4 == 3 ? 12 : i % 4);
            case 14: return x.game(i % 4);
            default: return x.goes(20, i % 4);
        }
    }

    private static void oneThoughtBehindAnother() {
        Check.sentence("IN THOUGHT (nothing of it stays");
        DeafBells x = Scene.full();
        DeafBells y = Scene.full();
        for (int i = 0; i < 64; i++) {
            int want = thought(Scene.full(), i);
            Check.due("thought " + i + " behind those before", thought(x, i), want);
            Check.due("thought " + (63 - i) + " behind those after", thought(y, 63 - i), thought(Scene.full(), 63 - i));
        }
    }
}
