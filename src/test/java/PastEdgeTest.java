import java.util.ArrayList;
import java.util.List;

/** Sentences of the document that name an edge: UNDO and THE IMAGE, promises 37 and 38. */
final class PastEdgeTest {
    /** A call made on a tower; false if it was refused. */
    private interface Deed {
        boolean on(DeafBells x);
    }

    private PastEdgeTest() {
    }

    public static void main(String[] args) {
        nothingToUndo();
        eachGoesBack();
        sixAreKept();
        eachHourAlone();
        stateAndBook();
        whatForgets();
        whatForgetsNot();
        refusalsForgetNot();
        undoneAndOn();
        noImage();
        imageOfAll();
        imageLeavesOut();
        imageMoreThanOnce();
        imageTakenForgetsNot();
        Check.finish("PastEdgeTest");
    }

    private static DeafBells four() {
        DeafBells x = new DeafBells();
        for (int r = 0; r < 4; r++) {
            x.ringer(r, r, 9 - r);
            x.set(5, r, 20 * r);
            x.set(6, r, 30 * r);
        }
        Check.tell(x, 2, "at 0 wedding 40; at 1 draught 3;", 2);
        x.act(2, 3);
        x.set(3, 0, 1000);
        x.state(99);
        return x;
    }

    // All that an hour or a hand changes.
    private static String moved(DeafBells x) {
        StringBuilder all = new StringBuilder();
        for (int what = 0; what <= 7; what++) {
            all.append(x.look(what)).append(' ');
        }
        for (int r = 0; r < x.look(0); r++) {
            for (int what = 0; what <= 5; what++) {
                all.append(x.of(r, what)).append(' ');
            }
        }
        for (int b = 0; b < 8; b++) {
            all.append(x.bell(b, 0)).append(' ').append(x.bell(b, 1)).append(' ');
        }
        for (int i = 0; i < x.look(6); i++) {
            all.append(x.book(i, 0)).append(x.book(i, 1)).append(x.book(i, 2)).append(x.book(i, 3)).append(' ');
        }
        return all.toString();
    }

    private static void nothingToUndo() {
        Check.sentence("UNDO: true; false if there is nothing.");
        DeafBells x = new DeafBells();
        Check.due("undo", x.undo(), false);
        Check.due("look(12)", x.look(12), 0);
        DeafBells y = four();
        String was = moved(y);
        Check.due("undo", y.undo(), false);
        Check.due("nothing changed", moved(y).equals(was), true);
        y.hours(1);
        Check.due("undo", y.undo(), true);
        Check.due("undo", y.undo(), false);
        Check.due("nothing changed", moved(y).equals(was), true);
    }

    private static List<Deed> deeds() {
        List<Deed> all = new ArrayList<>();
        all.add(x -> x.hours(1) >= 0);
        all.add(x -> x.pull(1) >= 0);
        all.add(x -> x.act(0, 1));
        all.add(x -> x.act(1, 3));
        all.add(x -> x.act(2, 1));
        return all;
    }

    private static void eachGoesBack() {
        Check.sentence("the latest HOUR, PULLING, FEEDING, WAKING, SLEEPING not undone yet goes back (STATE, THE BOOK, too)");
        for (Deed deed : deeds()) {
            DeafBells x = four();
            String was = moved(x);
            Check.due("done", deed.on(x), true);
            Check.due("look(12)", x.look(12), 1);
            String then = moved(x);
            Check.due("something changed", then.equals(was), false);
            Check.due("undo", x.undo(), true);
            Check.due("as it was", moved(x).equals(was), true);
            Check.due("look(12)", x.look(12), 0);
            Check.due("done again", deed.on(x), true);
            Check.due("as before", moved(x).equals(then), true);
        }
        DeafBells y = four();
        List<String> states = new ArrayList<>();
        for (Deed deed : deeds()) {
            states.add(moved(y));
            deed.on(y);
        }
        for (int i = states.size() - 1; i >= 0; i--) {
            Check.due("undo", y.undo(), true);
            Check.due("the latest first", moved(y).equals(states.get(i)), true);
        }
    }

    private static void sixAreKept() {
        Check.sentence("6 are kept");
        DeafBells x = four();
        List<String> states = new ArrayList<>();
        for (int i = 0; i < 20; i++) {
            states.add(moved(x));
            x.pull(0);
            Check.due("look(12)", x.look(12), Math.min(6, i + 1));
        }
        for (int i = 19; i >= 14; i--) {
            Check.due("undo", x.undo(), true);
            Check.due("as it was", moved(x).equals(states.get(i)), true);
            Check.due("look(12)", x.look(12), i - 14);
        }
        Check.due("not a seventh", x.undo(), false);
        Check.due("as it was", moved(x).equals(states.get(14)), true);
    }

    private static void eachHourAlone() {
        Check.sentence("UNDO: the latest HOUR");
        for (int n : new int[] {1, 2, 5, 6, 7, 60}) {
            DeafBells x = four();
            DeafBells alone = four();
            List<String> states = new ArrayList<>();
            for (int i = 0; i < n; i++) {
                states.add(moved(alone));
                alone.hours(1);
            }
            x.hours(n);
            Check.due("as hour by hour", moved(x).equals(moved(alone)), true);
            Check.due("look(12)", x.look(12), Math.min(6, n));
            for (int i = n - 1; i >= Math.max(0, n - 6); i--) {
                Check.due("undo", x.undo(), true);
                Check.due("one hour back", moved(x).equals(states.get(i)), true);
            }
            Check.due("no more", x.undo(), false);
        }
    }

    private static void stateAndBook() {
        Check.sentence("(STATE, THE BOOK, too)");
        DeafBells x = four();
        x.act(0, 1);
        x.hours(1);
        int lines = x.look(6);
        int state = x.look(7);
        x.undo();
        Check.due("STATE", x.look(7), 99);
        Check.due("THE BOOK", x.look(6), 1);
        Check.due("what is gone", x.book(1, 0), -1);
        x.pull(2);
        Check.due("a line anew", x.book(1, 2), 2);
        x.undo();
        x.hours(1);
        Check.due("lines", x.look(6), lines);
        Check.due("STATE", x.look(7), state);
    }

    private static void whatForgets() {
        Check.sentence("whatever else is told but THE LAW, ROPES, CHANGES and what is told for thought");
        List<Deed> all = new ArrayList<>();
        for (int what = 0; what <= 6; what++) {
            int w = what;
            all.add(x -> x.set(w, 0, w == 0 ? x.bell(0, 0) : w == 1 ? x.look(2) : w == 2 ? x.look(3) : w == 3 ? x.look(4) : 0));
        }
        all.add(x -> x.state(x.look(7)) != 12345);
        all.add(x -> x.ringer(0, 0, 0) == 4);
        all.add(x -> x.text(2) == 0);
        all.add(x -> x.image(true) && x.image(false));
        for (Deed deed : all) {
            DeafBells x = four();
            x.hours(1);
            x.pull(0);
            Check.due("look(12)", x.look(12), 2);
            Check.due("told", deed.on(x), true);
            Check.due("forgotten", x.look(12), 0);
            Check.due("undo", x.undo(), false);
            Check.due("HOUR", x.look(1), 1);
            x.pull(0);
            Check.due("then one again", x.look(12), 1);
        }
    }

    private static void whatForgetsNot() {
        Check.sentence("what is told for thought (SIGNS, ROUNDS, HOLDS, SEES, PIGEONS, STRANGER, OPINION) (the taking of THE IMAGE does not) forgets them");
        List<Deed> all = new ArrayList<>();
        all.add(x -> x.sign(1, 1) == 1);
        all.add(x -> x.sign(-1, 1) == 0);
        all.add(x -> x.round(3, 1) == 1);
        all.add(x -> x.round(-1, 1) == 0);
        all.add(x -> x.hold(0, 0, 5));
        all.add(x -> x.see(0, 1) == 1);
        all.add(x -> x.see(-1, 1) == 0);
        all.add(x -> x.pigeon(5) == 1);
        all.add(x -> x.pigeon(-1) == 0);
        all.add(x -> x.stranger(0, 1) == 1);
        all.add(x -> x.stranger(-1, 1) == 0);
        all.add(x -> x.opinion(0, 5));
        all.add(x -> x.text(0) == 0);
        all.add(x -> x.text(1) == 0);
        all.add(x -> x.text(3) == 0);
        all.add(x -> x.image(true));
        all.add(x -> x.feed(0x20202020, 0x20202020, 0x20202020, 0x20202020, 0x20202020) == 20);
        all.add(x -> x.end(0));
        for (Deed deed : all) {
            DeafBells x = four();
            String was = moved(x);
            x.hours(1);
            x.pull(0);
            Check.due("told", deed.on(x), true);
            Check.due("look(12)", x.look(12), 2);
            Check.due("undo", x.undo() && x.undo(), true);
            Check.due("as it was", moved(x).equals(was), true);
        }
        DeafBells y = four();
        y.pull(0);
        Check.tell(y, 0, "pull 7;", 1);
        Check.tell(y, 1, "ringer 0 feels 3;", 1);
        Check.tell(y, 3, "swap 0;", 1);
        y.opinion(0, 5);
        y.hold(0, 7, 5);
        y.undo();
        Check.due("THE LAW stays told", y.of(0, 7), 7);
        Check.due("ROPES stay told", y.of(0, 6), 8);
        Check.due("CHANGES stay told", y.peal(2, 0), 2);
        Check.due("OPINION stays told", y.peals(0), 5);
        Check.due("HOLDS stays told", y.look(0) == 4 && y.holds(10) == 0, true);
    }

    private static void refusalsForgetNot() {
        Check.sentence("false if one can't be, or another what.");
        DeafBells x = four();
        x.pull(0);
        x.pull(1);
        Check.due("set", x.set(0, 0, 0) || x.set(0, 8, 1) || x.set(1, 0, 100) || x.set(4, 4, 0) || x.set(6, 0, 99) || x.set(7, 0, 0), false);
        Check.due("ringer", x.ringer(8, 0, 0), -1);
        Check.due("pull", x.pull(3), -1);
        Check.due("act", x.act(1, 0) || x.act(2, 3) || x.act(3, 0) || x.act(0, 4), false);
        Check.due("hours", x.hours(61), -1);
        Check.due("image", x.image(false), false);
        Check.refused(x, 2, "at 24 fire 0;", 2, 3);
        Check.due("text(4)", x.text(4), -1);
        Check.due("feed and end", x.end(1), false);
        Check.due("look(12)", x.look(12), 2);
        Check.due("undo", x.undo() && x.undo(), true);
        Check.due("STROKES", x.bell(0, 1) + x.bell(1, 1), 0);
    }

    private static void undoneAndOn() {
        Check.sentence("not undone yet goes back");
        DeafBells x = four();
        String first = moved(x);
        x.hours(6);
        for (int i = 0; i < 3; i++) {
            x.undo();
        }
        String third = moved(x);
        x.act(0, 1);
        x.pull(0);
        Check.due("look(12)", x.look(12), 5);
        x.undo();
        x.undo();
        Check.due("as it was behind three", moved(x).equals(third), true);
        for (int i = 0; i < 3; i++) {
            Check.due("undo", x.undo(), true);
        }
        Check.due("as it was at first", moved(x).equals(first), true);
        Check.due("undo", x.undo(), false);
        DeafBells y = four();
        y.hours(4);
        String fourth = moved(y);
        y.undo();
        y.hours(7);
        for (int i = 0; i < 6; i++) {
            Check.due("undo", y.undo(), true);
        }
        Check.due("six kept behind it", moved(y).equals(fourth), true);
        Check.due("no seventh", y.undo(), false);
    }

    private static void noImage() {
        Check.sentence("THE IMAGE is taken (true), or gone back to (false): true; false if there is none.");
        DeafBells x = four();
        x.pull(0);
        String was = moved(x);
        Check.due("image(false)", x.image(false), false);
        Check.due("nothing changed", moved(x).equals(was), true);
        Check.due("look(12)", x.look(12), 1);
        Check.due("image(true)", x.image(true), true);
        Check.due("image(false)", x.image(false), true);
        Check.due("nothing changed", moved(x).equals(was), true);
        DeafBells y = new DeafBells();
        Check.due("of a new one", y.image(true), true);
        y.ringer(0, 0, 0);
        y.set(0, 3, 9);
        Check.due("back", y.image(false), true);
        Check.due("no RINGER", y.look(0), 0);
        Check.due("none AWAKE", y.look(5), 0);
        Check.due("HEAVY", y.bell(3, 0), 1);
        Check.due("a RINGER anew", y.ringer(1, 2, 3), 0);
        Check.due("HUNGER", y.of(0, 3), 0);
    }

    private static void imageOfAll() {
        Check.sentence("THE IMAGE: all that is and was told but the TAPE, fault() and what can be undone (nothing then), as it was when it was taken");
        List<Deed> all = new ArrayList<>();
        all.add(x -> x.hours(60) >= 0);
        all.add(x -> x.pull(0) >= 0);
        for (int what = 0; what <= 2; what++) {
            int w = what;
            all.add(x -> x.act(w, w == 1 ? 3 : 4));
        }
        for (int what = 0; what <= 6; what++) {
            int w = what;
            all.add(x -> x.set(w, 2, 7));
        }
        all.add(x -> x.state(4) != 4);
        all.add(x -> x.ringer(7, 7, 7) == 5);
        all.add(x -> x.text(1) == 0);
        all.add(x -> x.text(2) == 0);
        all.add(x -> x.text(3) == 0);
        all.add(x -> x.text(0) == 0);
        all.add(x -> x.sign(127, 9) == 3);
        all.add(x -> x.sign(-1, 0) == 0);
        all.add(x -> x.round(2, 0) == 3);
        all.add(x -> x.round(-1, 0) == 0);
        all.add(x -> x.hold(0, 0, 99));
        all.add(x -> x.see(3, 4) == 4);
        all.add(x -> x.see(-1, 0) == 0);
        all.add(x -> x.pigeon(99) == 4);
        all.add(x -> x.pigeon(-1) == 0);
        all.add(x -> x.stranger(3, 4) == 4);
        all.add(x -> x.stranger(-1, 0) == 0);
        all.add(x -> x.opinion(0, -9));
        DeafBells still = Scene.full();
        still.end(0);
        still.image(true);
        still.image(false);
        String want = Scene.shown(still);
        for (int i = 0; i < all.size(); i++) {
            DeafBells x = Scene.full();
            x.end(0);
            x.act(1, 3);
            x.undo();
            x.image(true);
            Check.due("deed " + i + " is done", all.get(i).on(x), true);
            Check.due("image(false)", x.image(false), true);
            Check.refused(x, 0, "pull", 1, 4);
            Check.due("all as it was, deed " + i, Scene.shown(x).equals(want), true);
        }
    }

    private static void imageLeavesOut() {
        Check.sentence("all that is and was told but the TAPE, fault() and what can be undone (nothing then)");
        DeafBells x = four();
        Check.put(x, "pull 8;");
        x.pull(0);
        x.image(true);
        x.end(0);
        Check.refused(x, 3, "swap 7;", 2, 5);
        Check.put(x, "pull 9;hard");
        x.pull(0);
        Check.due("look(12)", x.look(12), 2);
        x.image(false);
        Check.due("nothing can be undone", x.look(12), 0);
        Check.due("undo", x.undo(), false);
        Check.due("fault(0) stays", x.fault(0), 2);
        Check.due("fault(1) stays", x.fault(1), 5);
        Check.due("the TAPE stays", x.end(12), false);
        Check.due("the TAPE stays", x.end(11) && x.end(7), true);
        Check.due("the TAPE stays", x.text(0), 1);
        Check.due("what stood on it", x.of(0, 7), 9);
        x.image(true);
        x.image(false);
        Check.due("an empty TAPE stays empty", x.end(1), false);
    }

    private static void imageMoreThanOnce() {
        Check.sentence("gone back to it may be more than once");
        DeafBells b = four();
        b.act(0, 1);
        b.image(true);
        b.undo();
        b.pull(0);
        b.hours(3);
        b.image(false);
        int[] fed = {0, 1, 1, 20};
        for (int what = 0; what < 4; what++) {
            Check.due("THE BOOK has the line that was written over", b.book(0, what), fed[what]);
        }
        Check.due("and no other", b.look(6), 1);
        DeafBells x = four();
        x.image(true);
        String was = moved(x);
        for (int i = 1; i <= 5; i++) {
            x.hours(10 * i);
            x.set(1, 0, i);
            x.set(0, i, 50);
            Check.due("other", moved(x).equals(was), false);
            Check.due("image(false)", x.image(false), true);
            Check.due("as it was", moved(x).equals(was), true);
        }
        x.set(1, 0, 77);
        x.image(true);
        x.set(1, 0, 78);
        x.image(false);
        Check.due("the later image", x.look(2), 77);
        x.image(false);
        Check.due("and again", x.look(2), 77);
    }

    private static void imageTakenForgetsNot() {
        Check.sentence("(the taking of THE IMAGE does not)");
        DeafBells x = four();
        String was = moved(x);
        x.hours(3);
        String then = moved(x);
        x.image(true);
        Check.due("look(12)", x.look(12), 3);
        for (int i = 0; i < 3; i++) {
            Check.due("undo", x.undo(), true);
        }
        Check.due("as it was", moved(x).equals(was), true);
        x.image(false);
        Check.due("the image is not undone", moved(x).equals(then), true);
        Check.due("look(12)", x.look(12), 0);
    }
}
