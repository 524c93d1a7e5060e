/** Promises 1 to 7: the wall's parts, its loss and its threshold. */
public final class WallTest {
    private static final int BAD = GalleryRays.BAD;
    private static final int FULL = GalleryRays.FULL;
    private static final int NONE = GalleryRays.NONE;

    public static void main(String[] args) {
        newObject();
        addAnswersNumbers();
        addRefuses();
        addKeepsEdges();
        addFills();
        removeShifts();
        partRefuses();
        setsLoss();
        setsThreshold();
        Due.finish();
    }

    private static void newObject() {
        GalleryRays x = new GalleryRays();
        Due.same("parts() at first", x.parts(), 0);
        Due.same("clear() at first", x.clear(), 0);
        Due.same("undo() at first", x.undo(), NONE);
        Due.same("hits() at first", x.hits(), 0);
        Due.same("rays() at first", x.rays(), 0);
        Due.same("coverage() at first", x.coverage(), 0);
        Due.same("gap() at first", x.gap(), 27720);
        Due.same("setLoss(5) at first", x.setLoss(5), 10);
        Due.same("setThreshold(5) at first", x.setThreshold(5), 1000);
        Due.same("parts() of another object", new GalleryRays().parts(), 0);
    }

    private static void addAnswersNumbers() {
        GalleryRays x = new GalleryRays();
        Due.same("add soak", x.add(0, 10, 20, 30), 0);
        Due.same("add back", x.add(1, 11, 21, 0), 1);
        Due.same("add tilt", x.add(2, 12, 22, -32), 2);
        Due.same("add split", x.add(3, 13, 23, 33), 3);
        Due.same("add hear", x.add(4, 14, 24, 0), 4);
        Due.same("parts()", x.parts(), 5);
        Due.part(x, 0, 0, 10, 20, 30);
        Due.part(x, 1, 1, 11, 21, 0);
        Due.part(x, 2, 2, 12, 22, -32);
        Due.part(x, 3, 3, 13, 23, 33);
        Due.part(x, 4, 4, 14, 24, 0);
        Due.same("the same part again", x.add(4, 14, 24, 0), 5);
    }

    private static void addRefuses() {
        GalleryRays x = new GalleryRays();
        int[][] bad = {
            {-1, 0, 1, 0}, {5, 0, 1, 0}, {0, -1, 1, 0}, {0, 27720, 1, 0}, {0, 0, 0, 0},
            {0, 0, -1, 0}, {0, 0, 27721, 0}, {0, 0, 1, -1}, {0, 0, 1, 1001}, {1, 0, 1, 1},
            {1, 0, 1, -1}, {2, 0, 1, 10000}, {2, 0, 1, -10000}, {3, 0, 1, 10000},
            {3, 0, 1, -10000}, {4, 0, 1, 1}, {4, 0, 1, -1},
            {Integer.MIN_VALUE, 0, 1, 0}, {Integer.MAX_VALUE, 0, 1, 0},
            {4, Integer.MIN_VALUE, 1, 0}, {4, Integer.MAX_VALUE, 1, 0},
            {4, 0, Integer.MIN_VALUE, 0}, {4, 0, Integer.MAX_VALUE, 0},
            {2, 0, 1, Integer.MIN_VALUE}, {2, 0, 1, Integer.MAX_VALUE}};
        for (int[] a : bad) {
            Due.same("add(" + a[0] + ", " + a[1] + ", " + a[2] + ", " + a[3] + ")",
                    x.add(a[0], a[1], a[2], a[3]), BAD);
        }
        Due.same("parts() after refusals", x.parts(), 0);
        Due.same("undo() after refusals", x.undo(), NONE);
    }

    private static void addKeepsEdges() {
        GalleryRays x = new GalleryRays();
        int[][] edges = {
            {0, 0, 1, 0}, {0, 27719, 27720, 1000}, {1, 27719, 1, 0}, {2, 0, 27720, 9999},
            {2, 0, 27720, -9999}, {3, 5, 1, 9999}, {3, 5, 1, -9999}, {4, 0, 27720, 0}};
        for (int i = 0; i < edges.length; i++) {
            int[] a = edges[i];
            Due.same("add of edge " + i, x.add(a[0], a[1], a[2], a[3]), i);
            Due.part(x, i, a[0], a[1], a[2], a[3]);
        }
    }

    private static void addFills() {
        GalleryRays x = new GalleryRays();
        for (int i = 0; i < 12; i++) {
            Due.same("add number " + i, x.add(0, i, 1, i), i);
        }
        Due.same("add of a thirteenth", x.add(0, 0, 1, 0), FULL);
        Due.same("add of a bad thirteenth", x.add(5, 0, 1, 0), BAD);
        Due.same("parts() when full", x.parts(), 12);
        Due.part(x, 11, 0, 11, 1, 11);
        for (int left = 4; left >= 0; left--) {
            Due.same("undo()", x.undo(), left);
        }
        Due.same("a refused add is no act", x.parts(), 7);
    }

    private static void removeShifts() {
        GalleryRays x = new GalleryRays();
        Due.same("remove of nothing", x.remove(0), BAD);
        for (int i = 0; i < 4; i++) {
            x.add(0, 100 + i, 10 + i, i);
        }
        Due.same("remove(-1)", x.remove(-1), BAD);
        Due.same("remove(4)", x.remove(4), BAD);
        Due.same("remove(MAX)", x.remove(Integer.MAX_VALUE), BAD);
        Due.same("remove(MIN)", x.remove(Integer.MIN_VALUE), BAD);
        Due.same("remove(1)", x.remove(1), 3);
        Due.part(x, 0, 0, 100, 10, 0);
        Due.part(x, 1, 0, 102, 12, 2);
        Due.part(x, 2, 0, 103, 13, 3);
        Due.same("part(3, 0) after remove", x.part(3, 0), BAD);
        Due.same("undo() of remove", x.undo(), 4);
        Due.part(x, 1, 0, 101, 11, 1);
        Due.part(x, 3, 0, 103, 13, 3);
        Due.same("remove of the last", x.remove(3), 3);
        Due.same("remove(0)", x.remove(0), 2);
        Due.part(x, 0, 0, 101, 11, 1);
        Due.same("remove(0)", x.remove(0), 1);
        Due.same("remove(0)", x.remove(0), 0);
        Due.same("remove(0)", x.remove(0), BAD);
        removesFromFull();
    }

    private static void removesFromFull() {
        GalleryRays x = new GalleryRays();
        for (int i = 0; i < 12; i++) {
            x.add(2, i, i + 1, -i);
        }
        Due.same("remove(11) of twelve", x.remove(11), 11);
        Due.same("remove(0) of eleven", x.remove(0), 10);
        Due.part(x, 9, 2, 10, 11, -10);
        Due.same("part(10, 0)", x.part(10, 0), BAD);
        Due.same("add", x.add(4, 3, 2, 0), 10);
    }

    private static void partRefuses() {
        GalleryRays x = new GalleryRays();
        Due.same("part(0, 0) of none", x.part(0, 0), BAD);
        x.add(3, 7, 8, 9);
        Due.part(x, 0, 3, 7, 8, 9);
        int[][] bad = {{-1, 0}, {1, 0}, {0, -1}, {0, 4}, {12, 0}, {Integer.MAX_VALUE, 0},
            {Integer.MIN_VALUE, 3}, {0, Integer.MAX_VALUE}, {0, Integer.MIN_VALUE}};
        for (int[] a : bad) {
            Due.same("part(" + a[0] + ", " + a[1] + ")", x.part(a[0], a[1]), BAD);
        }
    }

    private static void setsLoss() {
        GalleryRays x = new GalleryRays();
        Due.same("setLoss(-1)", x.setLoss(-1), BAD);
        Due.same("setLoss(1000)", x.setLoss(1000), BAD);
        Due.same("setLoss(MIN)", x.setLoss(Integer.MIN_VALUE), BAD);
        Due.same("setLoss(MAX)", x.setLoss(Integer.MAX_VALUE), BAD);
        Due.same("undo() after refusals", x.undo(), NONE);
        Due.same("setLoss(0)", x.setLoss(0), 10);
        Due.same("setLoss(999)", x.setLoss(999), 0);
        Due.same("setLoss(999) again", x.setLoss(999), 999);
        Due.same("undo() of a loss that stayed", x.undo(), 2);
        Due.same("undo()", x.undo(), 1);
        Due.same("setLoss(1)", x.setLoss(1), 0);
    }

    private static void setsThreshold() {
        GalleryRays x = new GalleryRays();
        Due.same("setThreshold(0)", x.setThreshold(0), BAD);
        Due.same("setThreshold(-1)", x.setThreshold(-1), BAD);
        Due.same("setThreshold(1000001)", x.setThreshold(1000001), BAD);
        Due.same("setThreshold(MIN)", x.setThreshold(Integer.MIN_VALUE), BAD);
        Due.same("setThreshold(MAX)", x.setThreshold(Integer.MAX_VALUE), BAD);
        Due.same("undo() after refusals", x.undo(), NONE);
        Due.same("setThreshold(1)", x.setThreshold(1), 1000);
        Due.same("setThreshold(1000000)", x.setThreshold(1000000), 1);
        Due.same("setThreshold(2)", x.setThreshold(2), 1000000);
        Due.same("undo()", x.undo(), 2);
        Due.same("setThreshold(3)", x.setThreshold(3), 1000000);
    }
}
