/** Promises 27 and 28: the history, and the fingerprint. */
public final class HistoryTest {
    private static final int NONE = GalleryRays.NONE;

    public static void main(String[] args) {
        undoesEachAct();
        keepsFiveStates();
        keepsStatesApart();
        onlyActsCount();
        printOfNew();
        printOfAll();
        Due.finish();
    }

    private static void undoesEachAct() {
        GalleryRays x = new GalleryRays();
        x.add(4, 1, 2, 0);
        x.setLoss(33);
        x.setThreshold(44);
        Due.type(x, "soak:5+6,7");
        x.read();
        x.remove(0);
        Due.part(x, 0, 0, 5, 6, 7);
        Due.same("undo() of remove", x.undo(), 4);
        Due.part(x, 0, 4, 1, 2, 0);
        Due.part(x, 1, 0, 5, 6, 7);
        Due.same("undo() of read", x.undo(), 3);
        Due.same("parts()", x.parts(), 1);
        Due.same("undo() of setThreshold", x.undo(), 2);
        Due.same("undo() of setLoss", x.undo(), 1);
        Due.same("undo() of add", x.undo(), 0);
        Due.same("parts()", x.parts(), 0);
        Due.same("undo() of nothing", x.undo(), NONE);
        Due.same("loss", x.setLoss(1), 10);
        Due.same("threshold", x.setThreshold(1), 1000);
    }

    private static void keepsFiveStates() {
        GalleryRays x = new GalleryRays();
        for (int loss = 101; loss <= 107; loss++) {
            x.setLoss(loss);
        }
        for (int left = 4; left >= 0; left--) {
            Due.same("undo()", x.undo(), left);
        }
        Due.same("undo() of nothing", x.undo(), NONE);
        Due.same("the oldest state kept", x.setLoss(0), 102);
        Due.same("undo() after undoing all", x.undo(), 0);
        Due.same("the same state again", x.setLoss(0), 102);
    }

    private static void keepsStatesApart() {
        GalleryRays x = new GalleryRays();
        x.add(0, 1, 1, 1);
        x.add(0, 2, 2, 2);
        x.remove(0);
        x.add(0, 3, 3, 3);
        x.undo();
        x.add(0, 4, 4, 4);
        Due.part(x, 0, 0, 2, 2, 2);
        Due.part(x, 1, 0, 4, 4, 4);
        x.undo();
        x.undo();
        Due.part(x, 0, 0, 1, 1, 1);
        Due.part(x, 1, 0, 2, 2, 2);
        x.undo();
        Due.same("parts()", x.parts(), 1);
        Due.part(x, 0, 0, 1, 1, 1);
    }

    private static void onlyActsCount() {
        GalleryRays x = new GalleryRays();
        x.type('a');
        x.clear();
        x.read();
        x.shoot(0, 1, 1);
        x.add(9, 0, 1, 0);
        x.remove(0);
        x.setLoss(-1);
        x.setThreshold(0);
        x.aim(0, 5, 5);
        Due.same("undo() without acts", x.undo(), NONE);
        x.setLoss(10);
        x.setThreshold(1000);
        Due.same("acts that leave all as it was", x.undo(), 1);
        Due.same("undo() is no act", x.undo(), 0);
        Due.same("undo() of nothing", x.undo(), NONE);
    }

    private static void printOfNew() {
        GalleryRays x = new GalleryRays();
        long due = fold(127, 0, 10, 1000, 0, 0, 0);
        for (int part = 0; part < 12; part++) {
            due = fold(due, 0, 0, NONE, 0);
        }
        Due.same("fingerprint() at first", x.fingerprint(), due);
        Due.same("fingerprint() again", x.fingerprint(), due);
    }

    private static void printOfAll() {
        GalleryRays x = new GalleryRays();
        x.setLoss(500);
        x.setThreshold(400);
        x.add(2, 18480, 3, -240);
        x.add(4, 9240, 1, 0);
        x.shoot(0, 9240, 1000);
        long due = fold(127, 2, 2, 18480, 3, -240, 4, 9240, 1, 0, 500, 400, 2, 1, 2);
        due = fold(due, 0, 9240, 1729729, 1000, 9240);
        due = fold(due, 0, 18480, 2 * 1729729, 500, 9240);
        due = fold(due, 0, 0, NONE, 0);
        due = fold(due, 1, 500, 1729729, 500);
        for (int part = 2; part < 12; part++) {
            due = fold(due, 0, 0, NONE, 0);
        }
        Due.same("fingerprint()", x.fingerprint(), due);
        x.setLoss(501);
        Due.holds("the loss is in the fingerprint", x.fingerprint() != due);
        x.undo();
        Due.same("fingerprint() after undo()", x.fingerprint(), due);
        Due.type(x, "soak");
        Due.same("fingerprint() with a buffer", x.fingerprint(), due);
    }

    private static long fold(long print, long... numbers) {
        for (long number : numbers) {
            print = 31 * print + number;
        }
        return print;
    }
}
