/** Promises 37 and 38: UNDO and THE IMAGE. */
final class PastTest {
    private PastTest() {
    }

    public static void main(String[] args) {
        undoEach();
        undoSix();
        undoHours();
        notForgotten();
        forgotten();
        notForgottenByRefusal();
        imageOfAll();
        imageAndPast();
        imageTwice();
        Check.finish("PastTest");
    }

    private static DeafBells three() {
        DeafBells x = new DeafBells();
        for (int r = 0; r < 3; r++) {
            x.ringer(r, r, 3 * r);
        }
        x.set(0, 1, 20);
        x.set(1, 0, 60);
        x.set(3, 0, 400);
        x.set(5, 0, 50);
        x.set(6, 0, 30);
        return x;
    }

    private static String shown(DeafBells x) {
        StringBuilder all = new StringBuilder();
        for (int what = 0; what <= 11; what++) {
            all.append(x.look(what)).append(' ');
        }
        for (int r = 0; r < x.look(0); r++) {
            for (int what = 0; what <= 8; what++) {
                all.append(x.of(r, what)).append(' ');
            }
        }
        for (int b = 0; b < 8; b++) {
            all.append(x.bell(b, 0)).append(' ').append(x.bell(b, 1)).append(' ');
        }
        for (int i = 0; i < x.look(6); i++) {
            for (int what = 0; what < 4; what++) {
                all.append(x.book(i, what)).append(' ');
            }
        }
        return all.toString();
    }

    private static void undoEach() {
        DeafBells x = three();
        Check.tell(x, 2, "at 0 wedding 20; at 0 draught 4;", 2);
        for (int way = 0; way < 5; way++) {
            String before = shown(x);
            boolean did = way == 0 ? x.pull(2) == 3 : way == 1 ? x.act(0, 0) : way == 2 ? x.act(2, 0)
                : way == 3 ? x.hours(1) >= 0 : x.act(2, 1) && x.act(1, 1) && x.undo();
            Check.due("done", did, true);
            Check.due("look(12)", x.look(12), 1);
            Check.due("something changed", shown(x).equals(before), false);
            Check.due("undo", x.undo(), true);
            Check.due("as it was, " + way, shown(x).equals(before), true);
            Check.due("look(12)", x.look(12), 0);
            Check.due("undo", x.undo(), false);
        }
    }

    private static void undoSix() {
        DeafBells x = three();
        String[] was = new String[9];
        for (int i = 0; i < 8; i++) {
            was[i] = shown(x);
            Check.due("pull", x.pull(1), 2);
            Check.due("look(12)", x.look(12), Math.min(6, i + 1));
        }
        for (int i = 7; i >= 2; i--) {
            Check.due("undo", x.undo(), true);
            Check.due("as it was", shown(x).equals(was[i]), true);
        }
        Check.due("no seventh", x.undo(), false);
        x.pull(1);
        x.act(0, 0);
        Check.due("look(12)", x.look(12), 2);
        x.undo();
        x.pull(0);
        x.undo();
        x.undo();
        Check.due("as it was", shown(x).equals(was[2]), true);
        Check.due("look(12)", x.look(12), 0);
    }

    private static void undoHours() {
        DeafBells x = three();
        x.hours(10);
        Check.due("look(12)", x.look(12), 6);
        int state = x.look(7);
        String ten = shown(x);
        Check.due("undo", x.undo(), true);
        Check.due("HOUR", x.look(1), 9);
        Check.due("STATE goes back", x.look(7) != state, true);
        x.hours(1);
        Check.due("the same draws again", shown(x).equals(ten), true);
        for (int i = 0; i < 6; i++) {
            Check.due("undo", x.undo(), true);
        }
        Check.due("HOUR", x.look(1), 4);
        Check.due("undo", x.undo(), false);
    }

    private static void notForgotten() {
        DeafBells x = three();
        x.pull(0);
        x.pull(0);
        Check.tell(x, 0, "pull 5;", 1);
        Check.tell(x, 1, "ringer 0 feels 1;", 1);
        Check.tell(x, 3, "swap 0;", 1);
        x.sign(1, 1);
        x.sign(-1, 0);
        x.round(3, 1);
        x.hold(0, 0, 1);
        x.see(0, 1);
        x.pigeon(4);
        x.stranger(0, 1);
        x.opinion(0, 4);
        x.image(true);
        x.goes(5, 0);
        x.fault(0);
        x.lost();
        Check.due("look(12)", x.look(12), 2);
        Check.due("undo", x.undo(), true);
        Check.due("lines of THE LAW", x.look(8), 1);
        Check.due("of ROPES", x.of(0, 6), 2);
        Check.due("of CHANGES", x.look(11), 1);
        Check.due("OPINION", x.peals(0), 4);
        Check.due("STROKES", x.bell(0, 1), 1);
        Check.due("undo", x.undo(), true);
        Check.due("STROKES", x.bell(0, 1), 0);
    }

    private static void forgotten() {
        for (int way = 0; way < 11; way++) {
            DeafBells x = three();
            x.image(true);
            x.pull(0);
            Check.due("look(12)", x.look(12), 1);
            if (way < 7) {
                Check.due("set", x.set(way, 0, 1), true);
            } else if (way == 7) {
                x.state(0);
            } else if (way == 8) {
                Check.due("ringer", x.ringer(0, 0, 0), 3);
            } else if (way == 9) {
                Check.due("DAYS", x.text(2), 0);
            } else {
                Check.due("image", x.image(false), true);
            }
            Check.due("forgotten by way " + way, x.look(12), 0);
            Check.due("undo", x.undo(), false);
        }
    }

    private static void notForgottenByRefusal() {
        DeafBells x = three();
        x.pull(0);
        x.set(0, 0, 0);
        x.set(7, 0, 0);
        x.set(6, 3, 1);
        x.ringer(8, 0, 0);
        x.act(1, 1);
        x.pull(5);
        x.hours(0);
        x.image(false);
        Check.refused(x, 2, "at 0", 1, 4);
        x.text(4);
        Check.due("look(12)", x.look(12), 1);
        Check.due("undo", x.undo(), true);
    }

    private static void imageOfAll() {
        DeafBells x = three();
        tellAll(x, 1);
        Check.due("image(true)", x.image(true), true);
        String was = shown(x);
        String thought = thought(x);
        tellAll(x, 2);
        x.ringer(5, 5, 5);
        x.set(0, 5, 77);
        x.set(4, 0, 6);
        Check.due("all is other", shown(x).equals(was), false);
        Check.due("all is other", thought(x).equals(thought), false);
        x.feed(0x70756c6c, 0x20313b20, 0x20202020, 0x20202020, 0x20202020);
        Check.due("image(false)", x.image(false), true);
        Check.due("as it was", shown(x).equals(was), true);
        Check.due("as it was thought", thought(x).equals(thought), true);
        Check.due("the TAPE is not of it", x.text(0), 1);
        Check.refused(x, 0, "pull", 1, 4);
        x.image(false);
        Check.due("nor is fault()", x.fault(0), 1);
        Check.due("nor its place", x.fault(1), 4);
        Check.due("as it was again", shown(x).equals(was), true);
        Check.due("as it was thought again", thought(x).equals(thought), true);
    }

    private static void tellAll(DeafBells x, int v) {
        Check.tell(x, 0, "pull 50" + v + ";hard " + v + " when hour > 2; lost " + v + ";", 3);
        Check.tell(x, 1, "ringer 0 feels " + v + ";", 1);
        Check.tell(x, 2, "at " + v + " wedding " + v + ";", 1);
        Check.tell(x, 3, "swap " + v + ";", 1);
        x.state(1234 * v);
        x.sign(-1, 0);
        x.round(-1, 0);
        x.see(-1, 0);
        x.pigeon(-1);
        x.stranger(-1, 0);
        x.sign(v, v);
        x.round(4, v);
        x.hold(0, v, 9);
        x.hold(1, v, 10 * v);
        x.see(0, v);
        x.pigeon(v);
        x.stranger(0, v);
        x.opinion(0, v);
        x.hours(3 * v);
        x.pull(1);
        x.act(0, 1);
        x.act(2, v);
    }

    private static String thought(DeafBells x) {
        StringBuilder all = new StringBuilder();
        for (int n = 1; n <= 30; n += 7) {
            for (int what = 0; what < 4; what++) {
                all.append(x.goes(n, what)).append(' ');
            }
        }
        all.append(x.row(8, 1, 1)).append(' ').append(x.meant(0, 0)).append(' ').append(x.together(-1)).append(' ');
        for (int r = 0; r < 3; r++) {
            all.append(x.holds(10 + r)).append(' ').append(x.peals(10 + r)).append(' ').append(x.waves(0, r, 0)).append(' ');
            all.append(x.heard(r, 1)).append(' ').append(x.feeds(10 + r)).append(' ');
        }
        all.append(x.best(1, 0)).append(' ').append(x.peals(0));
        return all.toString();
    }

    private static void imageAndPast() {
        DeafBells x = three();
        x.pull(0);
        x.image(true);
        x.undo();
        Check.due("STROKES", x.bell(0, 1), 0);
        x.image(false);
        Check.due("STROKES", x.bell(0, 1), 1);
        Check.due("nothing to undo then", x.look(12), 0);
        Check.due("lines", x.look(6), 1);
        Check.due("undo", x.undo(), false);
        x.act(0, 0);
        x.act(0, 1);
        x.undo();
        x.undo();
        Check.due("lines", x.look(6), 1);
        Check.due("what", x.book(0, 1), 0);

        DeafBells y = three();
        y.act(0, 0);
        y.image(true);
        y.undo();
        y.pull(2);
        Check.due("what", y.book(0, 1), 0);
        y.image(false);
        int[] fed = {0, 1, 0, 50};
        for (int what = 0; what < 4; what++) {
            Check.due("THE BOOK as it was", y.book(0, what), fed[what]);
        }
    }

    private static void imageTwice() {
        DeafBells x = three();
        x.image(true);
        x.set(1, 0, 5);
        x.image(false);
        Check.due("FOLK", x.look(2), 60);
        x.set(1, 0, 6);
        x.image(true);
        x.set(1, 0, 7);
        Check.due("image(false)", x.image(false), true);
        Check.due("the latest image", x.look(2), 6);
        x.set(1, 0, 8);
        Check.due("image(false)", x.image(false), true);
        Check.due("once more", x.look(2), 6);
        Check.due("image of another", new DeafBells().image(false), false);
    }
}
