/** A tower of which everything has been told, and all of it that calls can show. */
final class Scene {
    static final int RINGERS = 5;
    static final int TAPE = 7;

    private Scene() {
    }

    /** Five who ring, two asleep, all texts and all thoughts told, an image, six to be undone, a TAPE, a FAULT. */
    static DeafBells full() {
        DeafBells x = new DeafBells();
        int[][] ringers = {{0, 1, 2}, {1, 9, 9}, {2, 0, 0}, {7, 5, 3}, {2, 4, 6}};
        for (int[] r : ringers) {
            x.ringer(r[0], r[1], r[2]);
        }
        int[][] set = {{0, 0, 10}, {0, 1, 15}, {0, 2, 22}, {0, 7, 99}, {1, 0, 40}, {2, 0, 3}, {3, 0, 500}, {5, 0, 30}, {5, 3, 60}, {6, 1, 40}};
        for (int[] s : set) {
            x.set(s[0], s[1], s[2]);
        }
        Check.tell(x, 0, "pull 600 when feel > 4; hard 2; lost sway / 9;", 3);
        Check.tell(x, 1, "ringer 0 feels 1; ringer 4 feels 2;", 2);
        Check.tell(x, 2, "at 1 wedding 9; at 5 draught 2;", 2);
        Check.tell(x, 3, "swap 0 2; swap 1;", 2);
        tellThoughts(x);
        x.state(777);
        x.hours(2);
        x.act(2, 4);
        x.act(2, 3);
        x.image(true);
        x.pull(0);
        x.act(0, 3);
        x.act(1, 4);
        x.act(2, 1);
        Check.refused(x, 0, "pull", 1, 4);
        Check.put(x, "pull 5;");
        return x;
    }

    private static void tellThoughts(DeafBells x) {
        x.sign(0, 5);
        x.sign(255, 7);
        x.round(4, 1);
        x.round(6, 3);
        for (int r = 0; r < RINGERS; r++) {
            x.hold(r, 7 - r, 50 + r);
            x.opinion(r, 4 - 2 * r);
        }
        for (int a = 0; a < 3; a++) {
            x.see(a, a + 1);
            x.pigeon(10 * a);
            x.stranger(a, a + 1);
        }
    }

    /** All that calls tell, at last of what is undone, gone back to and on the TAPE; x is used up by it. */
    static String shown(DeafBells x) {
        StringBuilder all = new StringBuilder();
        showTower(x, all);
        showThoughts(x, all);
        add(all, x.fault(0), x.fault(1), tapeLength(x), x.text(0), x.look(8), x.of(0, 7));
        for (int i = 0; i < 7; i++) {
            add(all, x.undo() ? 1 : 0, x.look(1), x.look(4), x.look(5), x.look(6), x.of(3, 3), x.look(12));
        }
        add(all, x.image(false) ? 1 : 0);
        showTower(x, all);
        return all.toString();
    }

    private static void add(StringBuilder all, int... answers) {
        for (int v : answers) {
            all.append(v).append(' ');
        }
    }

    // Nothing is cut off, as it goes down from above.
    static int tapeLength(DeafBells x) {
        for (int n = 27; n > 0; n--) {
            if (x.end(n)) {
                return n;
            }
        }
        return 0;
    }

    private static void showTower(DeafBells x, StringBuilder all) {
        for (int what = 0; what <= 12; what++) {
            add(all, x.look(what));
        }
        for (int r = 0; r <= RINGERS; r++) {
            for (int what = 0; what <= 8; what++) {
                add(all, x.of(r, what));
            }
        }
        for (int b = 0; b < 8; b++) {
            add(all, x.bell(b, 0), x.bell(b, 1));
        }
        for (int i = 0; i <= x.look(6); i++) {
            add(all, x.book(i, 0), x.book(i, 1), x.book(i, 2), x.book(i, 3));
        }
        add(all, x.lost());
    }

    private static void showThoughts(DeafBells x, StringBuilder all) {
        for (int what = 0; what < 4; what++) {
            add(all, x.goes(1, what), x.goes(30, what), x.row(4, 3, what), x.meant(7, what));
        }
        add(all, x.peal(4, 0), x.peal(8, 1), x.together(-1), x.together(1), x.bears(60, 0), x.bears(60, 1), x.bears(60, 2));
        for (int i = 0; i < RINGERS; i++) {
            add(all, x.holds(10 + i), x.waves(0, i, 0), x.heard(i, 0), x.heard(i, 1), x.feeds(10 + i), x.peals(10 + i), x.best(i, 0));
        }
        add(all, x.holds(0), x.heard(0, 2), x.feeds(0), x.casts(0), x.casts(1), x.peals(0), x.peals(1), x.game(0), x.game(1));
    }
}
