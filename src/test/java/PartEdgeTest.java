/**
 * The bounds that the head PARTS and promises 1 to 7 name: what holds just inside of each and just
 * outside. A test for each sentence, which stands above it.
 */
public final class PartEdgeTest {
    private static final int N = 27720;
    private static final int BAD = GalleryRays.BAD;
    private static final int FULL = GalleryRays.FULL;
    private static final int SOAK = 0;
    private static final int BACK = 1;
    private static final int TILT = 2;
    private static final int SPLIT = 3;
    private static final int HEAR = 4;
    /** Any ray lasts, and comes to this place with the first hit. */
    private static final int PLACE = 500;

    public static void main(String[] args) {
        wallWithoutParts();
        twelvePartsFromNumberZero();
        roomComesBack();
        kindsEnd();
        firstPlacesEnd();
        numbersOfPlacesEnd();
        partsContainTheirPlacesOnly();
        soaksByTheirRange();
        soaksRoundDown();
        backsHaveNoK();
        backsTurnAnyStep();
        tiltsByTheirRange();
        tiltsGrowInTheirDirection();
        tiltsThatAreNoStepEnd();
        splitsByTheirRange();
        splitsTakeHalfRoundedDown();
        splitsChangeTheNewStep();
        splitsThatWouldEndLoseTheHalf();
        splitsBelowTheThresholdLoseTheHalf();
        splitsLeaveTheNewRayAlone();
        hearsHaveNoK();
        hearsLeaveTheRay();
        lossesEnd();
        lossAtFirst();
        thresholdsEnd();
        thresholdAtFirst();
        removesTheFirstAndTheLast();
        tellsPartsAtTheEnds();
        countsFromNoneToTwelve();
        Due.finish();
    }

    private static int addAt(GalleryRays x, int kind, int k) {
        return x.add(kind, PLACE, 1, k);
    }

    /** Lets a ray come to PLACE with its first hit. */
    private static int shootAt(GalleryRays x, int step, int energy) {
        return x.shoot(Math.floorMod(PLACE - step, N), step, energy);
    }

    private static void same(GalleryRays x, int kind, int first, int many, int k, int due) {
        Due.same("add(" + kind + ", " + first + ", " + many + ", " + k + ")",
                x.add(kind, first, many, k), due);
    }

    // ---- how many, and where

    /** Promise 1: "Creates a wall without parts." */
    private static void wallWithoutParts() {
        GalleryRays x = new GalleryRays();
        Due.same("parts() of a new wall", x.parts(), 0);
        Due.same("part(0, 0) of a new wall", x.part(0, 0), BAD);
        Due.same("remove(0) of a new wall", x.remove(0), BAD);
        Due.same("undo() of a new wall", x.undo(), GalleryRays.NONE);
        Due.same("clear() of a new wall", x.clear(), 0);
        Due.same("hits() of a new wall", x.hits(), 0);
    }

    /** "There are at most 12 parts of the wall, numbered from 0." */
    private static void twelvePartsFromNumberZero() {
        GalleryRays x = new GalleryRays();
        for (int i = 0; i < 12; i++) {
            same(x, HEAR, i, i + 1, 0, i);
        }
        same(x, HEAR, 12, 13, 0, FULL);
        Due.same("parts()", x.parts(), 12);
        Due.part(x, 0, HEAR, 0, 1, 0);
        Due.part(x, 11, HEAR, 11, 12, 0);
        Due.same("undo()", x.undo(), 4);
        Due.same("the act before FULL is undone", x.parts(), 11);
    }

    /** FULL stands "if there are 12 parts": with 11 again there is room. */
    private static void roomComesBack() {
        GalleryRays x = new GalleryRays();
        for (int i = 0; i < 12; i++) {
            x.add(HEAR, i, 1, 0);
        }
        same(x, HEAR, 12, 1, 0, FULL);
        Due.same("remove(0)", x.remove(0), 11);
        same(x, HEAR, 12, 1, 0, 11);
        same(x, HEAR, 13, 1, 0, FULL);
        x.undo();
        same(x, HEAR, 14, 1, 0, 11);
        Due.part(x, 11, HEAR, 14, 1, 0);
    }

    /** Promise 2: "kind: 0 to 4". */
    private static void kindsEnd() {
        GalleryRays x = new GalleryRays();
        same(x, -1, 0, 1, 0, BAD);
        same(x, 5, 0, 1, 0, BAD);
        for (int kind = 0; kind <= 4; kind++) {
            same(x, kind, 0, 1, 0, kind);
            Due.same("kind", x.part(kind, 0), kind);
        }
        same(x, 5, 0, 1, 0, BAD);
        Due.same("parts()", x.parts(), 5);
    }

    /** Promise 2: "first: 0 to N - 1". */
    private static void firstPlacesEnd() {
        GalleryRays x = new GalleryRays();
        same(x, HEAR, -1, 1, 0, BAD);
        same(x, HEAR, N, 1, 0, BAD);
        same(x, HEAR, 0, 1, 0, 0);
        same(x, HEAR, N - 1, 1, 0, 1);
        Due.same("first place", x.part(0, 1), 0);
        Due.same("last place", x.part(1, 1), N - 1);
    }

    /** "a number of places m, 1 to N". */
    private static void numbersOfPlacesEnd() {
        GalleryRays x = new GalleryRays();
        same(x, HEAR, 0, 0, 0, BAD);
        same(x, HEAR, 0, N + 1, 0, BAD);
        same(x, HEAR, 0, 1, 0, 0);
        same(x, HEAR, 0, N, 0, 1);
        same(x, HEAR, N - 1, N, 0, 2);
        Due.same("one place", x.part(0, 2), 1);
        Due.same("all places", x.part(2, 2), N);
    }

    /** "it contains f, f + 1, ..., f + m - 1, modulo N". */
    private static void partsContainTheirPlacesOnly() {
        int[][] parts = {{100, 1}, {100, 2}, {0, 1}, {0, 2}, {N - 1, 1}, {N - 1, 2}, {N - 2, 2},
            {N - 2, 4}, {13860, 13860}, {13860, 13861}, {13860, 13859}, {1, N - 1}, {0, N - 1},
            {N - 1, N - 1}, {5, N - 1}};
        for (int[] part : parts) {
            int first = part[0];
            int many = part[1];
            contains(first, many, first, 1);
            contains(first, many, first + many - 1, 1);
            contains(first, many, first - 1, 0);
            contains(first, many, first + many, 0);
        }
        int[] any = {0, 1, 4, 5, 6, N - 1};
        for (int place : any) {
            contains(5, N, place, 1);
            contains(0, N, place, 1);
            contains(N - 1, N, place, 1);
        }
    }

    private static void contains(int first, int many, int place, int due) {
        GalleryRays x = Due.wall(0, 1000);
        x.add(HEAR, first, many, 0);
        x.shoot(Math.floorMod(place - 1, N), 1, 1);
        Due.same(many + " places from " + first + " contain " + place, x.heard(0, 0), due);
    }

    // ---- kind 0

    /** "soak, k from 0 to 1000". */
    private static void soaksByTheirRange() {
        GalleryRays x = new GalleryRays();
        same(x, SOAK, 0, 1, -1, BAD);
        same(x, SOAK, 0, 1, 1001, BAD);
        same(x, SOAK, 0, 1, 0, 0);
        same(x, SOAK, 0, 1, 1000, 1);
        Due.same("least k", x.part(0, 3), 0);
        Due.same("greatest k", x.part(1, 3), 1000);
    }

    /** "energy e becomes e * (1000 - k) / 1000, rounded down". */
    private static void soaksRoundDown() {
        int[][] due = {{0, 1, 1}, {0, 1000000, 1000000}, {1, 1, 0}, {1, 999, 998}, {1, 1000, 999},
            {1, 1001, 999}, {1, 1000000, 999000}, {500, 1, 0}, {500, 2, 1}, {500, 3, 1},
            {999, 999, 0}, {999, 1000, 1}, {999, 1999, 1}, {999, 2000, 2}, {999, 1000000, 1000},
            {1000, 1, 0}, {1000, 1000000, 0}};
        for (int[] d : due) {
            GalleryRays x = Due.wall(0, 1);
            addAt(x, SOAK, d[0]);
            addAt(x, HEAR, 0);
            shootAt(x, 1, d[1]);
            Due.same("energy " + d[1] + " after a soak of " + d[0], x.heard(1, 1), d[2]);
        }
    }

    // ---- kind 1

    /** "For the kinds 1 and 4, k is 0." */
    private static void backsHaveNoK() {
        GalleryRays x = new GalleryRays();
        same(x, BACK, 0, 1, -1, BAD);
        same(x, BACK, 0, 1, 1, BAD);
        same(x, BACK, 0, 1, 0, 0);
    }

    /** "the step becomes its negative". */
    private static void backsTurnAnyStep() {
        int[] steps = {1, -1, 13859, -13859, 77, -77};
        for (int step : steps) {
            GalleryRays x = Due.wall(0, 1);
            addAt(x, BACK, 0);
            shootAt(x, step, 9);
            Due.same("step " + step + " before it is turned", x.hit(0, 4), step);
            Due.same("step " + step + " turned back", x.hit(1, 4), -step);
            Due.same("place of " + step + " turned back",
                    x.hit(1, 1), Math.floorMod(PLACE - step, N));
        }
    }

    // ---- kind 2

    /** "tilt, k from -9999 to 9999". */
    private static void tiltsByTheirRange() {
        rangeOfTilts(TILT);
    }

    private static void rangeOfTilts(int kind) {
        GalleryRays x = new GalleryRays();
        same(x, kind, 0, 1, -10000, BAD);
        same(x, kind, 0, 1, 10000, BAD);
        same(x, kind, 0, 1, -9999, 0);
        same(x, kind, 0, 1, 9999, 1);
        same(x, kind, 0, 1, 0, 2);
        Due.same("least k", x.part(0, 3), -9999);
        Due.same("greatest k", x.part(1, 3), 9999);
    }

    /** Steps before, k, and after: just still a step. */
    private static final int[][] TILTED = {{1, 0, 1}, {-1, 0, -1}, {1, 1, 2}, {-1, 1, -2},
        {2, -1, 1}, {-2, -1, -1}, {13858, 1, 13859}, {-13858, 1, -13859}, {13859, 0, 13859},
        {-13859, 0, -13859}, {13859, -1, 13858}, {-13859, -1, -13858}, {3860, 9999, 13859},
        {-3860, 9999, -13859}, {10000, -9999, 1}, {-10000, -9999, -1}, {100, -99, 1},
        {-100, -99, -1}};

    /** Steps and k whose sum is no step, or has the other sign: just beyond. */
    private static final int[][] ENDED = {{1, -1}, {-1, -1}, {1, -2}, {-1, -2}, {2, -2}, {-2, -2},
        {13859, 1}, {-13859, 1}, {13858, 2}, {-13858, 2}, {3861, 9999}, {-3861, 9999},
        {9999, -9999}, {-9999, -9999}, {9998, -9999}, {-9998, -9999}, {100, -100}, {100, -101},
        {13859, 9999}, {-13859, 9999}, {1, -9999}, {-1, -9999}};

    /** "the step becomes greater by k if it is positive, and less by k if it is negative". */
    private static void tiltsGrowInTheirDirection() {
        for (int[] d : TILTED) {
            GalleryRays x = Due.wall(0, 1);
            addAt(x, TILT, d[1]);
            addAt(x, HEAR, 0);
            shootAt(x, d[0], 9);
            String call = "step " + d[0] + " tilted by " + d[1];
            Due.same(call, x.hit(1, 4), d[2]);
            Due.same(call + ": place", x.hit(1, 1), Math.floorMod(PLACE + d[2], N));
            Due.same(call + ": time", x.hit(1, 2), x.time(d[0]) + x.time(d[2]));
            Due.same(call + ": heard first", x.heard(1, 2), x.time(d[0]));
        }
    }

    /** "if this is no step, or has the other sign, the ray ends". */
    private static void tiltsThatAreNoStepEnd() {
        for (int[] d : ENDED) {
            GalleryRays x = Due.wall(0, 1);
            addAt(x, TILT, d[1]);
            addAt(x, HEAR, 0);
            String call = "step " + d[0] + " tilted by " + d[1];
            Due.same(call + ": hits", shootAt(x, d[0], 1000000), 1);
            Due.same(call + ": step with which it came", x.hit(0, 4), d[0]);
            Due.same(call + ": heard after its end", x.heard(1, 0), 0);
        }
    }

    // ---- kind 3

    /** "split, k as for tilt". */
    private static void splitsByTheirRange() {
        rangeOfTilts(SPLIT);
    }

    /** A wall on which rays are split once, at PLACE, and are soaked up anywhere else. */
    private static GalleryRays splitter(int k) {
        GalleryRays x = Due.wall(0, 1);
        addAt(x, SPLIT, k);
        x.add(SOAK, PLACE + 1, N - 1, 1000);
        return x;
    }

    /** "half of the energy, rounded down, goes to a new ray ..; the rest stays with the ray". */
    private static void splitsTakeHalfRoundedDown() {
        int[][] due = {{2, 1, 1}, {3, 2, 1}, {4, 2, 2}, {5, 3, 2}, {999999, 500000, 499999},
            {1000000, 500000, 500000}};
        for (int[] d : due) {
            GalleryRays x = splitter(-1);
            Due.same("hits of energy " + d[0], shootAt(x, 100, d[0]), 3);
            Due.same("rays of energy " + d[0], x.rays(), 2);
            Due.hit(x, 1, 1, PLACE + 99, x.time(100) + x.time(99), d[2], 99);
            Due.hit(x, 2, 0, PLACE + 100, 2L * x.time(100), d[1], 100);
        }
    }

    /** "a new ray at the same place and time, whose step is changed as by tilt". */
    private static void splitsChangeTheNewStep() {
        for (int[] d : TILTED) {
            GalleryRays x = splitter(d[1]);
            String call = "step " + d[0] + " split by " + d[1];
            Due.same(call + ": hits", shootAt(x, d[0], 10), 3);
            int ofOld = x.hit(1, 0) == 0 ? 1 : 2;
            int ofNew = 3 - ofOld;
            Due.hit(x, ofOld, 0, Math.floorMod(PLACE + d[0], N), 2L * x.time(d[0]), 5, d[0]);
            Due.hit(x, ofNew, 1, Math.floorMod(PLACE + d[2], N),
                    x.time(d[0]) + x.time(d[2]), 5, d[2]);
        }
    }

    /** "if this would end it .. there is no new ray, but the half is lost all the same". */
    private static void splitsThatWouldEndLoseTheHalf() {
        for (int[] d : ENDED) {
            GalleryRays x = Due.wall(0, 1);
            addAt(x, SPLIT, d[1]);
            addAt(x, HEAR, 0);
            String call = "step " + d[0] + " split by " + d[1];
            Due.same(call + ": hits", shootAt(x, d[0], 1001), 600);
            Due.same(call + ": rays", x.rays(), 1);
            Due.same(call + ": rest", x.hit(1, 3), 501);
            Due.same(call + ": step", x.hit(1, 4), d[0]);
            Due.same(call + ": the ray is heard", x.heard(1, 3), 501);
        }
    }

    /** "(.. or the half is less than the threshold, there is no new ray, ..)". */
    private static void splitsBelowTheThresholdLoseTheHalf() {
        int[][] due = {{500, 1000, 2}, {500, 999, 1}, {500, 1001, 2}, {1, 2, 2}, {1, 1, 1},
            {500000, 1000000, 2}, {500000, 999999, 1}};
        for (int[] d : due) {
            GalleryRays x = Due.wall(0, d[0]);
            addAt(x, SPLIT, 1);
            addAt(x, HEAR, 0);
            shootAt(x, 100, d[1]);
            String call = "energy " + d[1] + " split, threshold " + d[0];
            Due.same(call + ": rays", x.rays(), d[2]);
            Due.same(call + ": rest", x.heard(1, 3), d[1] - d[1] / 2);
        }
        GalleryRays x = Due.wall(0, 501);
        addAt(x, SPLIT, 1);
        Due.same("the rest is below the threshold too", shootAt(x, 100, 1001), 600);
        Due.same("the rest is below the threshold too", shootAt(x, 100, 1000), 1);
    }

    /** "at this hit no part acts on the new ray". */
    private static void splitsLeaveTheNewRayAlone() {
        GalleryRays x = Due.wall(0, 1);
        addAt(x, SPLIT, 1);
        addAt(x, HEAR, 0);
        addAt(x, SOAK, 900);
        addAt(x, BACK, 0);
        addAt(x, SPLIT, 2);
        shootAt(x, 100, 2000);
        Due.same("rays", x.rays(), 3);
        Due.same("heard: the old ray alone", x.heard(1, 0), 1);
        Due.same("heard: its rest", x.heard(1, 1), 1000);
        // 1000 for ray 1, 100 after the soak, 50 for ray 2; rays 0 and 2 go back.
        Due.hit(x, 1, 0, PLACE - 100, 2L * x.time(100), 50, -100);
        Due.hit(x, 2, 1, PLACE + 101, x.time(100) + x.time(101), 1000, 101);
        Due.hit(x, 3, 2, PLACE - 102, x.time(100) + x.time(102), 50, -102);
    }

    // ---- kind 4

    /** "For the kinds 1 and 4, k is 0." */
    private static void hearsHaveNoK() {
        GalleryRays x = new GalleryRays();
        same(x, HEAR, 0, 1, -1, BAD);
        same(x, HEAR, 0, 1, 1, BAD);
        same(x, HEAR, 0, 1, 0, 0);
    }

    /** "the part hears the ray; the ray stays as it is". */
    private static void hearsLeaveTheRay() {
        GalleryRays x = Due.wall(0, 5);
        addAt(x, HEAR, 0);
        Due.same("hits", shootAt(x, -30, 5), 600);
        Due.same("heard", x.heard(0, 1), 5);
        Due.hit(x, 1, 0, PLACE - 30, 2L * x.time(30), 5, -30);
    }

    // ---- loss and threshold

    /** "The wall has a loss, 0 to 999". */
    private static void lossesEnd() {
        GalleryRays x = new GalleryRays();
        Due.same("setLoss(-1)", x.setLoss(-1), BAD);
        Due.same("setLoss(1000)", x.setLoss(1000), BAD);
        Due.same("setLoss(0)", x.setLoss(0), 10);
        Due.same("setLoss(999)", x.setLoss(999), 0);
        Due.same("setLoss(1000)", x.setLoss(1000), BAD);
        Due.same("setLoss(1)", x.setLoss(1), 999);
    }

    /** "(10 at first)": 10 thousandths, rounded down. */
    private static void lossAtFirst() {
        GalleryRays x = new GalleryRays();
        x.setThreshold(1);
        x.shoot(0, 1, 1000000);
        Due.same("a million less the loss", x.hit(1, 3), 990000);
        x.shoot(0, 1, 101);
        Due.same("101 less the loss", x.hit(1, 3), 99);
        x.shoot(0, 1, 1);
        Due.same("1 less the loss: no second hit", x.hits(), 1);
        Due.same("setLoss(10)", x.setLoss(10), 10);
    }

    /** "and a threshold, 1 to 1000000". */
    private static void thresholdsEnd() {
        GalleryRays x = new GalleryRays();
        Due.same("setThreshold(0)", x.setThreshold(0), BAD);
        Due.same("setThreshold(1000001)", x.setThreshold(1000001), BAD);
        Due.same("setThreshold(1)", x.setThreshold(1), 1000);
        Due.same("setThreshold(1000000)", x.setThreshold(1000000), 1);
        Due.same("setThreshold(1000001)", x.setThreshold(1000001), BAD);
        Due.same("setThreshold(2)", x.setThreshold(2), 1000000);
    }

    /** "(1000 at first)". */
    private static void thresholdAtFirst() {
        GalleryRays x = new GalleryRays();
        x.setLoss(0);
        Due.same("hits with energy 999", x.shoot(0, 1, 999), 1);
        Due.same("hits with energy 1000", x.shoot(0, 1, 1000), 600);
        Due.same("setThreshold(1000)", x.setThreshold(1000), 1000);
    }

    // ---- promises 3 to 5

    /** "BAD if there is no such part"; "the later ones get numbers less by 1". */
    private static void removesTheFirstAndTheLast() {
        GalleryRays x = new GalleryRays();
        for (int i = 0; i < 12; i++) {
            x.add(TILT, i, i + 1, -i);
        }
        Due.same("remove(-1) of 12", x.remove(-1), BAD);
        Due.same("remove(12) of 12", x.remove(12), BAD);
        Due.same("remove(11) of 12", x.remove(11), 11);
        Due.same("remove(11) of 11", x.remove(11), BAD);
        Due.part(x, 10, TILT, 10, 11, -10);
        Due.same("remove(0) of 11", x.remove(0), 10);
        for (int i = 0; i < 10; i++) {
            Due.part(x, i, TILT, i + 1, i + 2, -i - 1);
        }
        Due.same("remove(4) of 10", x.remove(4), 9);
        Due.part(x, 3, TILT, 4, 5, -4);
        Due.part(x, 4, TILT, 6, 7, -6);
        Due.part(x, 8, TILT, 10, 11, -10);
        Due.same("part(9, 0)", x.part(9, 0), BAD);
    }

    /** "BAD if there is no such part, or what is not in its range". */
    private static void tellsPartsAtTheEnds() {
        GalleryRays x = new GalleryRays();
        Due.same("part(0, 0) of 0", x.part(0, 0), BAD);
        x.add(SPLIT, 5, 6, -7);
        x.add(SOAK, 8, 9, 10);
        Due.same("part(-1, 0)", x.part(-1, 0), BAD);
        Due.part(x, 0, SPLIT, 5, 6, -7);
        Due.part(x, 1, SOAK, 8, 9, 10);
        Due.same("part(2, 0) of 2", x.part(2, 0), BAD);
        Due.same("part(0, -1)", x.part(0, -1), BAD);
        Due.same("part(0, 4)", x.part(0, 4), BAD);
        Due.same("part(1, -1)", x.part(1, -1), BAD);
        Due.same("part(1, 4)", x.part(1, 4), BAD);
        for (int i = 2; i < 12; i++) {
            x.add(HEAR, i, 1, 0);
        }
        Due.same("part(11, 1) of 12", x.part(11, 1), 11);
        Due.same("part(12, 1) of 12", x.part(12, 1), BAD);
        Due.same("part(11, 4) of 12", x.part(11, 4), BAD);
    }

    /** Promise 5: "Returns the number of parts." */
    private static void countsFromNoneToTwelve() {
        GalleryRays x = new GalleryRays();
        for (int i = 0; i < 12; i++) {
            Due.same("parts()", x.parts(), i);
            x.add(HEAR, 0, 1, 0);
        }
        Due.same("parts()", x.parts(), 12);
        for (int i = 11; i >= 0; i--) {
            Due.same("remove(0)", x.remove(0), i);
            Due.same("parts()", x.parts(), i);
        }
    }
}
