/**
 * The bounds that the head HISTORY and promises 27 and 28 name: what holds just inside of each and
 * just outside. A test for each sentence, which stands above it.
 */
public final class HistoryEdgeTest {
    private static final int NONE = GalleryRays.NONE;
    private static final int HEAR = 4;

    public static void main(String[] args) {
        atMostFiveStates();
        oldestOneIsDropped();
        eachActAddsAState();
        actsThatLeaveAllAsItWas();
        errorsAddNoState();
        partsLossAndThresholdAreKept();
        shotIsNotInTheHistory();
        bufferIsNotInTheHistory();
        othersAreNoActs();
        undoRemovesTheLatest();
        undoMakesRoom();
        undoOfNothing();
        undoFromTwelveParts();
        fingerprintOfNoPartsAndNoHits();
        fingerprintOfTwelvePartsAndAllHits();
        fingerprintSeesEachNumber();
        fingerprintOfTheState();
        Due.finish();
    }

    // ---- HISTORY

    /** "A history of at most 5 states is kept". */
    private static void atMostFiveStates() {
        for (int acts = 0; acts <= 8; acts++) {
            GalleryRays x = new GalleryRays();
            for (int i = 1; i <= acts; i++) {
                x.setLoss(i);
            }
            int states = Math.min(acts, 5);
            for (int left = states - 1; left >= 0; left--) {
                Due.same("undo() of " + acts + " acts", x.undo(), left);
            }
            Due.same("undo() after all of " + acts + " acts", x.undo(), NONE);
        }
    }

    /** "if there are 5 already, the oldest one is dropped". */
    private static void oldestOneIsDropped() {
        int[][] due = {{4, 10}, {5, 10}, {6, 101}, {7, 102}, {12, 107}};
        for (int[] d : due) {
            GalleryRays x = new GalleryRays();
            for (int i = 1; i <= d[0]; i++) {
                x.setLoss(100 + i);
            }
            for (int i = 0; i < 5; i++) {
                x.undo();
            }
            Due.same("oldest loss after " + d[0] + " acts", x.setLoss(0), d[1]);
        }
    }

    /** "Each call described as an act that returns no error adds the state before it". */
    private static void eachActAddsAState() {
        GalleryRays x = new GalleryRays();
        Due.same("add", x.add(HEAR, 0, 1, 0), 0);
        Due.same("setLoss", x.setLoss(5), 10);
        Due.same("setThreshold", x.setThreshold(6), 1000);
        Due.type(x, "hear:1+1");
        Due.same("read", x.read(), 1);
        Due.same("remove", x.remove(0), 1);
        Due.same("undo() of remove", x.undo(), 4);
        Due.same("undo() of read", x.undo(), 3);
        Due.same("undo() of setThreshold", x.undo(), 2);
        Due.same("undo() of setLoss", x.undo(), 1);
        Due.same("undo() of add", x.undo(), 0);
        Due.same("undo() of nothing", x.undo(), NONE);
    }

    /** "also if it leaves all as it was". */
    private static void actsThatLeaveAllAsItWas() {
        GalleryRays x = new GalleryRays();
        x.setLoss(10);
        Due.same("undo() of the same loss", x.undo(), 0);
        x.setThreshold(1000);
        Due.same("undo() of the same threshold", x.undo(), 0);
        x.setLoss(20);
        for (int i = 0; i < 5; i++) {
            Due.same("the same loss", x.setLoss(20), 20);
        }
        for (int left = 4; left >= 0; left--) {
            Due.same("undo() of the same loss", x.undo(), left);
        }
        Due.same("the loss before was dropped", x.setLoss(0), 20);
    }

    /** "that returns no error": a refused act adds no state, and drops none. */
    private static void errorsAddNoState() {
        GalleryRays x = new GalleryRays();
        for (int i = 1; i <= 5; i++) {
            x.setLoss(i);
        }
        x.setLoss(-1);
        x.setLoss(1000);
        x.setThreshold(0);
        x.setThreshold(1000001);
        x.remove(0);
        x.add(5, 0, 1, 0);
        x.read();
        for (int left = 4; left >= 0; left--) {
            Due.same("undo() after refused acts", x.undo(), left);
        }
        Due.same("the oldest loss", x.setLoss(0), 10);
    }

    /** "parts, loss and threshold": each of them comes back. */
    private static void partsLossAndThresholdAreKept() {
        GalleryRays x = new GalleryRays();
        x.add(0, 1, 2, 3);
        x.add(3, 4, 5, -6);
        x.remove(0);
        Due.part(x, 0, 3, 4, 5, -6);
        Due.same("undo() of remove", x.undo(), 2);
        Due.part(x, 0, 0, 1, 2, 3);
        Due.part(x, 1, 3, 4, 5, -6);
        Due.same("parts()", x.parts(), 2);
        x.setLoss(77);
        x.setThreshold(88);
        Due.same("undo() of setThreshold", x.undo(), 3);
        Due.same("undo() of setLoss", x.undo(), 2);
        Due.same("loss", x.setLoss(0), 10);
        Due.same("threshold", x.setThreshold(1), 1000);
    }

    /** "it does not belong to the states of the history". */
    private static void shotIsNotInTheHistory() {
        GalleryRays x = new GalleryRays();
        x.add(HEAR, 100, 1, 0);
        x.shoot(0, 100, 900);
        x.setLoss(500);
        x.shoot(0, 50, 2000);
        Due.same("undo() of setLoss", x.undo(), 1);
        Due.same("hits()", x.hits(), 2);
        Due.same("heard(0, 1)", x.heard(0, 1), 500);
        Due.same("undo() of add", x.undo(), 0);
        Due.same("hits()", x.hits(), 2);
        Due.same("heard(0, 1) of a part that is gone", x.heard(0, 1), 500);
        Due.same("undo() of nothing", x.undo(), NONE);
        Due.hit(x, 1, 0, 100, 2L * x.time(50), 1000, 50);
    }

    /** The buffer is none of "parts, loss and threshold". */
    private static void bufferIsNotInTheHistory() {
        GalleryRays x = new GalleryRays();
        Due.type(x, "hear:");
        x.setLoss(5);
        Due.type(x, "1+1");
        x.undo();
        Due.same("read() after undo()", x.read(), 1);
        x.undo();
        Due.same("clear() after undo() of read()", x.clear(), 0);
    }

    /** type, clear, shoot and all that tells are not described as acts. */
    private static void othersAreNoActs() {
        GalleryRays x = new GalleryRays();
        x.type('a');
        x.clear();
        x.shoot(0, 1, 1);
        x.part(0, 0);
        x.parts();
        x.hits();
        x.hit(0, 0);
        x.rays();
        x.coverage();
        x.gap();
        x.heard(0, 0);
        x.echo(0);
        x.mean();
        x.crossings(2);
        x.time(1);
        x.caustic(1);
        x.order(1);
        x.turns(1);
        x.aim(0, 1, 1);
        x.widest(0);
        x.fingerprint();
        Due.same("undo() without acts", x.undo(), NONE);
    }

    /** "undo() removes the latest one and restores it": it is no act of its own. */
    private static void undoRemovesTheLatest() {
        GalleryRays x = new GalleryRays();
        x.setLoss(1);
        x.setLoss(2);
        Due.same("undo()", x.undo(), 1);
        Due.same("loss after undo()", x.setLoss(3), 1);
        Due.same("undo() of the third", x.undo(), 1);
        Due.same("undo() of the first", x.undo(), 0);
        Due.same("loss at first", x.setLoss(4), 10);
    }

    /** With an undone act there is room again for a state: none is dropped. */
    private static void undoMakesRoom() {
        GalleryRays x = new GalleryRays();
        for (int i = 1; i <= 5; i++) {
            x.setLoss(i);
        }
        Due.same("undo()", x.undo(), 4);
        x.setLoss(55);
        for (int left = 4; left >= 0; left--) {
            Due.same("undo()", x.undo(), left);
        }
        Due.same("the oldest loss", x.setLoss(0), 10);
    }

    /** Promise 27: "NONE if it has none". */
    private static void undoOfNothing() {
        Twins.unchanged("undo() of a new object", x -> {
        }, GalleryRays::undo, NONE);
        Twins.unchanged("undo() of an emptied history", x -> {
            x.add(HEAR, 5, 6, 0);
            x.setLoss(20);
            x.undo();
            x.undo();
            x.shoot(0, 7, 90000);
            Due.type(x, "hear:1+2");
        }, GalleryRays::undo, NONE);
    }

    /** A state with 12 parts comes back whole. */
    private static void undoFromTwelveParts() {
        GalleryRays x = new GalleryRays();
        for (int i = 0; i < 12; i++) {
            x.add(2, 100 + i, 200 + i, 300 + i);
        }
        for (int left = 11; left >= 7; left--) {
            Due.same("remove(0)", x.remove(0), left);
        }
        for (int i = 0; i < 5; i++) {
            x.undo();
        }
        Due.same("parts()", x.parts(), 12);
        for (int i = 0; i < 12; i++) {
            Due.part(x, i, 2, 100 + i, 200 + i, 300 + i);
        }
    }

    // ---- promise 28

    /** "It starts as 127; then .. it becomes 31 times itself plus the number". */
    private static long folded(long print, long... numbers) {
        for (long number : numbers) {
            print = 31 * print + number;
        }
        return print;
    }

    /** What the document says of the numbers and their order, by the other methods. */
    private static long due(GalleryRays x, int loss, int threshold) {
        long print = folded(127, x.parts());
        for (int i = 0; i < x.parts(); i++) {
            print = folded(print, x.part(i, 0), x.part(i, 1), x.part(i, 2), x.part(i, 3));
        }
        print = folded(print, loss, threshold, x.hits(), x.rays(), x.coverage());
        for (int i = 0; i < x.hits(); i++) {
            print = folded(print, x.hit(i, 0), x.hit(i, 1), x.hit(i, 2), x.hit(i, 3), x.hit(i, 4));
        }
        for (int i = 0; i < 12; i++) {
            print = folded(print, x.heard(i, 0), x.heard(i, 1), x.heard(i, 2), x.heard(i, 3));
        }
        return print;
    }

    /** No parts and no hits: the shortest one. */
    private static void fingerprintOfNoPartsAndNoHits() {
        GalleryRays x = new GalleryRays();
        long print = folded(127, 0, 10, 1000, 0, 0, 0);
        for (int i = 0; i < 12; i++) {
            print = folded(print, 0, 0, NONE, 0);
        }
        Due.same("fingerprint() of a new object", x.fingerprint(), print);
        Due.same("the same by the other methods", due(x, 10, 1000), print);
    }

    /** 12 parts and 600 hits: the longest one, "in long arithmetic with overflow". */
    private static void fingerprintOfTwelvePartsAndAllHits() {
        GalleryRays x = new GalleryRays();
        long print = folded(127, 12);
        for (int i = 0; i < 11; i++) {
            x.add(HEAR, i, 27720 - i, 0);
            print = folded(print, HEAR, i, 27720 - i, 0);
        }
        x.add(2, 5, 1, -9999);
        print = folded(print, 2, 5, 1, -9999);
        x.setLoss(0);
        x.setThreshold(1000000);
        x.shoot(0, -9240, 1000000);
        print = folded(print, 0, 1000000, 600, 1, 3);
        long[] heardBy = new long[11];
        for (int i = 0; i < 600; i++) {
            int place = new int[] {18480, 9240, 0}[i % 3];
            print = folded(print, 0, place, (i + 1) * 1729729L, 1000000, -9240);
            for (int part = 0; part < 11; part++) {
                heardBy[part] += place >= part ? 1 : 0;
            }
        }
        for (int part = 0; part < 11; part++) {
            print = folded(print, heardBy[part], heardBy[part] * 1000000, 1729729, 1000000);
        }
        print = folded(print, 0, 0, NONE, 0);
        Due.same("fingerprint() of 12 parts and 600 hits", x.fingerprint(), print);
    }

    /** Two rays that are heard, on a wall that is no more as at first. */
    private static GalleryRays used() {
        GalleryRays x = new GalleryRays();
        x.setLoss(500);
        x.setThreshold(400);
        x.add(3, 100, 1, -50);
        x.add(HEAR, 150, 1000, 0);
        Due.same("hits", x.shoot(0, 100, 2000), 3);
        return x;
    }

    /** Each act changes the numbers that it changes, and undo() brings them back. */
    private static void fingerprintSeesEachNumber() {
        GalleryRays x = used();
        long print = x.fingerprint();
        Due.same("fingerprint()", print, due(x, 500, 400));
        x.setLoss(501);
        Due.same("fingerprint() with another loss", x.fingerprint(), due(x, 501, 400));
        x.setThreshold(401);
        Due.same("fingerprint() with another threshold", x.fingerprint(), due(x, 501, 401));
        x.undo();
        x.undo();
        Due.same("fingerprint() of the state before", x.fingerprint(), print);
        GalleryRays y = used();
        y.add(0, 1, 2, 3);
        Due.same("fingerprint() with another part", y.fingerprint(), due(y, 500, 400));
        y.remove(0);
        Due.same("fingerprint() with a part less", y.fingerprint(), due(y, 500, 400));
        y.shoot(0, 100, 2001);
        Due.same("fingerprint() of another shot", y.fingerprint(), due(y, 500, 400));
    }

    /** It tells of the state and the shot alone: not of the buffer, nor of the history. */
    private static void fingerprintOfTheState() {
        GalleryRays x = new GalleryRays();
        long print = x.fingerprint();
        x.type('a');
        Due.same("fingerprint() with a buffer", x.fingerprint(), print);
        x.setLoss(10);
        Due.same("fingerprint() with a history", x.fingerprint(), print);
        x.shoot(0, 1, 0);
        Due.same("fingerprint() after a refused shot", x.fingerprint(), print);
        Due.same("fingerprint() again", x.fingerprint(), print);
        Due.same("it is no act", x.undo(), 0);
    }
}
