/**
 * The bounds that the head "A SHOT" and promises 11 to 20 name: what holds just inside of each and
 * just outside. A test for each sentence, which stands above it.
 */
public final class ShotEdgeTest {
    private static final int N = 27720;
    private static final int BAD = GalleryRays.BAD;
    private static final int NONE = GalleryRays.NONE;
    private static final int SOAK = 0;
    private static final int BACK = 1;
    private static final int TILT = 2;
    private static final int SPLIT = 3;
    private static final int HEAR = 4;

    public static void main(String[] args) {
        energiesEnd();
        beginsWithRayZeroAtTimeZero();
        fewerThanSixHundredHits();
        noneBeforeTheFirstShot();
        earliestRayGoesOn();
        smallestNumberOfSeveralGoesOn();
        lossRoundsDown();
        partsActInTheirOrder();
        partsActUntilTheRayEnds();
        thresholdIsLookedAtLast();
        newRaysGetTheNextNumbers();
        atMostHundredRays();
        lostRaysLoseTheHalf();
        hitsAreToldAsTheRayCame();
        hitsAtTheEnds();
        latestShotIsTold();
        refusedShotLeavesTheLatest();
        coversEachPlaceOnce();
        gapWithoutAndWithOneHit();
        gapAroundTheCircle();
        gapOfManyHits();
        hearsAsThePartActs();
        heardAtTheEnds();
        heardByTheNumberAtTheShot();
        heardNoneAndZero();
        echoesAtTheEnds();
        echoOfSeveralParts();
        meanWithoutHits();
        meanOfFloats();
        crossingsAtTheEnds();
        crossingsOfFewerChords();
        crossingsOfRayZero();
        chordsWithACommonEnd();
        lastCallsOfAnObject();
        Due.finish();
    }

    // ---- the course of a shot

    /** "an energy from 1 to 1000000". */
    private static void energiesEnd() {
        GalleryRays x = Due.wall(0, 1);
        Due.same("shoot(0, 1, 0)", x.shoot(0, 1, 0), BAD);
        Due.same("shoot(0, 1, 1000001)", x.shoot(0, 1, 1000001), BAD);
        Due.same("hits()", x.hits(), 0);
        Due.same("shoot(0, 1, 1)", x.shoot(0, 1, 1), 600);
        Due.same("energy", x.hit(599, 3), 1);
        Due.same("shoot(0, 1, 1000000)", x.shoot(0, 1, 1000000), 600);
        Due.same("energy", x.hit(599, 3), 1000000);
    }

    /** "begins with one ray, number 0, at a place, with a step and an energy .., at time 0". */
    private static void beginsWithRayZeroAtTimeZero() {
        GalleryRays x = Due.wall(0, 1000000);
        Due.same("hits", x.shoot(N - 1, -5, 77), 1);
        Due.same("rays()", x.rays(), 1);
        Due.hit(x, 0, 0, N - 6, x.time(5), 77, -5);
        Due.same("its first place is no hit", x.coverage(), 1);
    }

    /** "as long as there are rays and fewer than 600 hits". */
    private static void fewerThanSixHundredHits() {
        int[][] due = {{1, 1}, {2, 2}, {599, 599}, {600, 600}, {601, 600}, {1000, 600}};
        for (int[] d : due) {
            GalleryRays x = Due.wall(0, 1);
            x.add(SOAK, d[0], 1, 1000);
            Due.same("a ray to " + d[0], x.shoot(0, 1, 1), d[1]);
            Due.same("hits() of a ray to " + d[0], x.hits(), d[1]);
            Due.same("last place of a ray to " + d[0], x.hit(d[1] - 1, 1), d[1]);
            Due.same("after the last hit", x.hit(d[1], 1), BAD);
        }
        GalleryRays x = Due.wall(0, 1);
        x.add(SPLIT, 600, 1, 0);
        Due.same("split at the last hit", x.shoot(0, 1, 2), 600);
        Due.same("a ray that is made at the last hit", x.rays(), 2);
        Due.same("split after the last hit", x.shoot(N - 1, 1, 2), 600);
        Due.same("no ray is made after the last hit", x.rays(), 1);
    }

    /** "0 if there was no shot", "N if there was no hit", "0 without hits". */
    private static void noneBeforeTheFirstShot() {
        GalleryRays x = new GalleryRays();
        Due.same("hits()", x.hits(), 0);
        Due.same("hit(0, 0)", x.hit(0, 0), BAD);
        Due.same("rays()", x.rays(), 0);
        Due.same("coverage()", x.coverage(), 0);
        Due.same("gap()", x.gap(), N);
        Due.same("heard(0, 0)", x.heard(0, 0), 0);
        Due.same("echo(0)", x.echo(0), NONE);
        Due.same("mean()", (double) x.mean(), 0.0);
        Due.same("crossings(200)", x.crossings(200), 0);
        x.shoot(0, 1, 1);
        Due.same("hits() of a shot", x.hits(), 1);
        Due.same("rays() of a shot", x.rays(), 1);
    }

    /** "the ray whose next hit comes first (its time plus the time of its chord)". */
    private static void earliestRayGoesOn() {
        // The chords of 13851 and 13852 differ by 1, those of 13852 and 13853 by nothing.
        firstAfterASplit(13852, -1, 1);
        firstAfterASplit(-13852, -1, 1);
        firstAfterASplit(13851, 1, 0);
        firstAfterASplit(-13851, 1, 0);
        GalleryRays x = Due.wall(0, 1);
        x.add(SPLIT, 100, 1, 100);
        x.shoot(0, 100, 2);
        // A chord of 200 takes less than two of 100, so ray 1 comes after the first of them.
        Due.same("first", x.hit(1, 0), 0);
        Due.same("second", x.hit(2, 0), 1);
        Due.same("third", x.hit(3, 0), 0);
        Due.holds("in the order of time", x.hit(2, 2) <= x.hit(3, 2));
    }

    /** "of several the one with the smallest number". */
    private static void smallestNumberOfSeveralGoesOn() {
        firstAfterASplit(13853, -1, 0);
        firstAfterASplit(13852, 1, 0);
        firstAfterASplit(-13853, -1, 0);
        firstAfterASplit(9240, 0, 0);
        GalleryRays x = Due.wall(0, 1);
        for (int i = 0; i < 3; i++) {
            x.add(SPLIT, 50, 1, 0);
        }
        x.shoot(0, 50, 1000);
        for (int i = 0; i < 40; i++) {
            Due.same("ray of hit " + (i + 1), x.hit(i + 1, 0), i % 4);
        }
    }

    private static void firstAfterASplit(int step, int k, int due) {
        GalleryRays x = Due.wall(0, 1);
        x.add(SPLIT, Math.floorMod(step, N), 1, k);
        x.shoot(0, step, 2);
        String call = "step " + step + " split by " + k;
        Due.same(call + ": first ray", x.hit(1, 0), due);
        Due.same(call + ": second ray", x.hit(2, 0), 1 - due);
    }

    /** "its energy becomes e * (1000 - loss) / 1000, rounded down". */
    private static void lossRoundsDown() {
        int[][] due = {{0, 1, 1}, {0, 1000000, 1000000}, {1, 1000, 999}, {1, 1001, 999},
            {1, 999, 998}, {1, 1000000, 999000}, {999, 1000, 1}, {999, 1999, 1}, {999, 2000, 2},
            {999, 1000000, 1000}};
        for (int[] d : due) {
            GalleryRays x = Due.wall(d[0], 1);
            x.shoot(0, 7, d[1]);
            Due.same("energy " + d[1] + " before the loss", x.hit(0, 3), d[1]);
            Due.same("energy " + d[1] + " after the loss of " + d[0], x.hit(1, 3), d[2]);
        }
        GalleryRays x = Due.wall(999, 1);
        Due.same("999 has no thousandth", x.shoot(0, 7, 999), 1);
    }

    /** "all parts that contain the place act on it, in the order of their numbers". */
    private static void partsActInTheirOrder() {
        GalleryRays x = Due.wall(0, 1);
        x.add(TILT, 100, 1, 10);
        x.add(BACK, 100, 1, 0);
        x.add(TILT, 100, 1, -60);
        x.add(HEAR, 100, 1, 0);
        x.add(SPLIT, 100, 1, 3);
        x.add(SOAK, 100, 1, 500);
        x.add(HEAR, 100, 1, 0);
        x.add(HEAR, 101, N - 1, 0);
        x.shoot(0, 100, 8);
        Due.same("heard before the split", x.heard(3, 1), 8);
        Due.same("heard after split and soak", x.heard(6, 1), 2);
        Due.hit(x, 1, 0, 50, x.time(100) + x.time(50), 2, -50);
        Due.hit(x, 2, 1, 47, x.time(100) + x.time(53), 4, -53);
        x.remove(0);
        x.shoot(0, 59, 8);
        Due.same("step without the first tilt", x.hit(1, 4), 59);
    }

    /** "until it ends": what comes after a tilt that ends the ray does nothing. */
    private static void partsActUntilTheRayEnds() {
        GalleryRays x = Due.wall(0, 1);
        x.add(HEAR, 100, 1, 0);
        x.add(TILT, 100, 1, -100);
        x.add(HEAR, 100, 1, 0);
        x.add(SPLIT, 100, 1, 200);
        x.add(TILT, 100, 1, 300);
        Due.same("hits", x.shoot(0, 100, 1000), 1);
        Due.same("heard before the end", x.heard(0, 0), 1);
        Due.same("heard after the end", x.heard(2, 0), 0);
        Due.same("split after the end", x.rays(), 1);
        Due.same("the one hit is an echo", x.echo(0), 0);
        Due.same("hits of a longer step", x.shoot(N - 1, 101, 1000), 600);
    }

    /** "If it has not ended, and its energy is less than the threshold then, it ends." */
    private static void thresholdIsLookedAtLast() {
        int[][] due = {{998, 1}, {999, 1}, {1000, 600}, {1001, 600}};
        for (int[] d : due) {
            GalleryRays x = Due.wall(0, 1000);
            Due.same("energy " + d[0] + ", threshold 1000", x.shoot(0, 1, d[0]), d[1]);
        }
        GalleryRays x = Due.wall(100, 900);
        Due.same("900 after the loss", x.shoot(0, 1, 1000), 2);
        Due.same("899 after the loss", x.shoot(0, 1, 999), 1);
        GalleryRays y = Due.wall(0, 500);
        y.add(SOAK, 1, 1, 500);
        y.add(HEAR, 1, 1, 0);
        y.add(SPLIT, 1, 1, 1);
        Due.same("500 after the soak", y.shoot(0, 1, 1000), 1);
        Due.same("but 250 after the split", y.heard(1, 1), 500);
        Due.same("499 after the soak", y.shoot(0, 1, 999), 1);
        Due.same("it is heard below the threshold", y.heard(1, 1), 499);
        y.remove(2);
        Due.same("500 without the split", y.shoot(0, 1, 1000), 600);
        Due.same("499 without the split", y.shoot(0, 1, 999), 1);
        y.setThreshold(1000000);
        Due.same("a million, soaked at once", y.shoot(0, 1, 1000000), 1);
        Due.same("a million, never soaked", y.shoot(1, 1, 1000000), 600);
    }

    /** "New rays get the next numbers". */
    private static void newRaysGetTheNextNumbers() {
        GalleryRays x = Due.wall(0, 1);
        x.add(SPLIT, 100, 1, -40);
        x.add(SPLIT, 100, 1, -60);
        x.add(SPLIT, 100, 1, -100);
        x.add(SPLIT, 100, 1, -80);
        x.add(SOAK, 101, N - 1, 1000);
        Due.same("hits", x.shoot(0, 100, 1600), 5);
        Due.same("rays()", x.rays(), 4);
        Due.hit(x, 1, 3, 120, x.time(100) + x.time(20), 100, 20);
        Due.hit(x, 2, 2, 140, x.time(100) + x.time(40), 400, 40);
        Due.hit(x, 3, 1, 160, x.time(100) + x.time(60), 800, 60);
        Due.hit(x, 4, 0, 200, 2L * x.time(100), 100, 100);
    }

    /**
     * Ray 0 makes ray 1 at place 1, then both are soaked up: ray 0 has become 96 rays before that,
     * and ray 1 makes as many as there are splits at place 101.
     */
    private static GalleryRays crowd(int splits) {
        GalleryRays x = Due.wall(0, 1);
        x.add(SPLIT, 1, 1, 99);
        x.add(SPLIT, 2, 6, 0);
        x.add(SPLIT, 2, 1, 0);
        x.add(SOAK, 8, 50, 1000);
        x.add(SOAK, 201, 1, 1000);
        for (int i = 0; i < splits; i++) {
            x.add(SPLIT, 101, 1, 0);
        }
        return x;
    }

    /** "there are at most 100 rays in a shot". */
    private static void atMostHundredRays() {
        int[][] due = {{0, 97}, {1, 98}, {2, 99}, {3, 100}, {4, 100}, {5, 100}};
        for (int[] d : due) {
            GalleryRays x = crowd(d[0]);
            int raysAt201 = 1 + Math.min(d[0], 3);
            Due.same("hits with " + d[0] + " splits", x.shoot(0, 1, 1000000), 192 + raysAt201);
            Due.same("rays with " + d[0] + " splits", x.rays(), d[1]);
            Due.same("ray of the last hit", x.hit(x.hits() - 1, 0), d[0] == 0 ? 1 : d[1] - 1);
        }
    }

    /** "(where a new one would be more, it is lost like its half)". */
    private static void lostRaysLoseTheHalf() {
        int[] due = {500000, 250000, 125000, 62500, 31250, 15625};
        for (int splits = 0; splits < due.length; splits++) {
            GalleryRays x = crowd(splits);
            x.shoot(0, 1, 1000000);
            Due.same("ray 1 comes on", x.hit(192, 0), 1);
            Due.same("the rest after " + splits + " splits", x.hit(192, 3), due[splits]);
            Due.same("its step", x.hit(192, 4), 100);
        }
    }

    // ---- what is told

    /** "the energy with which the ray came (before the loss), and the step with which it came". */
    private static void hitsAreToldAsTheRayCame() {
        GalleryRays x = Due.wall(500, 1);
        x.add(SOAK, 9, 1, 900);
        x.add(BACK, 9, 1, 0);
        x.add(TILT, 9, 1, 4);
        x.shoot(0, 9, 1000);
        Due.hit(x, 0, 0, 9, x.time(9), 1000, 9);
        Due.hit(x, 1, 0, 9 - 13 + N, x.time(9) + x.time(13), 50, -13);
    }

    /** Promise 13: "BAD if there is no such hit, or what is not in its range". */
    private static void hitsAtTheEnds() {
        GalleryRays x = Due.wall(0, 1);
        x.add(SOAK, 3, 1, 1000);
        Due.same("hits", x.shoot(0, 1, 4), 3);
        Due.same("hit(-1, 0)", x.hit(-1, 0), BAD);
        Due.same("hit(0, 1)", x.hit(0, 1), 1);
        Due.same("hit(2, 1)", x.hit(2, 1), 3);
        Due.same("hit(3, 1)", x.hit(3, 1), BAD);
        Due.same("hit(0, -1)", x.hit(0, -1), BAD);
        Due.same("hit(0, 0)", x.hit(0, 0), 0);
        Due.same("hit(0, 4)", x.hit(0, 4), 1);
        Due.same("hit(0, 5)", x.hit(0, 5), BAD);
        Due.same("hit(2, 5)", x.hit(2, 5), BAD);
        Due.same("hits of a long shot", x.shoot(3, 1, 4), 600);
        Due.same("hit(599, 1)", x.hit(599, 1), 603);
        Due.same("hit(600, 1)", x.hit(600, 1), BAD);
        Due.same("hit(599, 5)", x.hit(599, 5), BAD);
    }

    /** "What is told of the shot is that of the latest one". */
    private static void latestShotIsTold() {
        GalleryRays x = Due.wall(0, 1);
        x.add(SPLIT, 11088, 1, 5);
        x.add(HEAR, 0, N, 0);
        x.shoot(0, 11088, 1000000);
        Due.holds("the first shot's chords cross", x.crossings(200) > 0);
        x.remove(0);
        x.remove(0);
        x.add(SOAK, 20, 1, 1000);
        x.shoot(0, 10, 6);
        GalleryRays y = Due.wall(0, 1);
        y.add(SOAK, 20, 1, 1000);
        y.shoot(0, 10, 6);
        Due.same("hits()", x.hits(), 2);
        Due.same("rays()", x.rays(), 1);
        Due.same("coverage()", x.coverage(), 2);
        Due.same("gap()", x.gap(), N - 11);
        Due.same("hit(2, 0)", x.hit(2, 0), BAD);
        Due.same("heard(1, 0)", x.heard(1, 0), 0);
        Due.same("heard(1, 1)", x.heard(1, 1), 0);
        Due.same("heard(1, 2)", x.heard(1, 2), NONE);
        Due.same("heard(1, 3)", x.heard(1, 3), 0);
        Due.same("echo(0)", x.echo(0), NONE);
        Due.same("mean()", (double) x.mean(), 6.0);
        Due.same("crossings(200)", x.crossings(200), 0);
        Due.same("fingerprint()", x.fingerprint(), y.fingerprint());
    }

    /** "BAD if an argument is not as described (the latest shot stays then)". */
    private static void refusedShotLeavesTheLatest() {
        int[][] bad = {{-1, 1, 1}, {N, 1, 1}, {0, 0, 1}, {0, 13860, 1}, {0, -13860, 1}, {0, 1, 0},
            {0, 1, 1000001}};
        for (int[] b : bad) {
            Twins.unchanged("shoot(" + b[0] + ", " + b[1] + ", " + b[2] + ")", x -> {
                x.add(HEAR, 0, 5000, 0);
                x.add(SPLIT, 11088, 1, 7);
                x.shoot(0, 11088, 100000);
            }, x -> x.shoot(b[0], b[1], b[2]), BAD);
        }
    }

    /** Promise 15: "the number of different places that were hit". */
    private static void coversEachPlaceOnce() {
        GalleryRays x = Due.wall(0, 1);
        int[][] due = {{1, 600}, {-1, 600}, {9240, 3}, {6930, 4}, {11088, 5}, {55, 504},
            {46, 600}, {13859, 600}};
        for (int[] d : due) {
            x.shoot(5, d[0], 1);
            Due.same("coverage() of step " + d[0], x.coverage(), d[1]);
        }
        x.setThreshold(2);
        x.shoot(5, 9240, 1);
        Due.same("coverage() of one hit", x.coverage(), 1);
    }

    /** Promise 16: "N if there was no hit". */
    private static void gapWithoutAndWithOneHit() {
        Due.same("gap() without a hit", new GalleryRays().gap(), N);
        int[] places = {0, 1, 62, 63, 64, 65, 13859, 13860, N - 65, N - 64, N - 2, N - 1};
        for (int place : places) {
            GalleryRays x = Due.wall(0, 2);
            x.shoot(Math.floorMod(place - 3, N), 3, 1);
            Due.same("place of the hit", x.hit(0, 1), place);
            Due.same("gap() of a hit at " + place, x.gap(), N - 1);
        }
    }

    /** "the greatest number of successive places that were not hit (around the circle)". */
    private static void gapAroundTheCircle() {
        int[][] due = {{0, 1, N - 2}, {N - 1, 0, N - 2}, {0, N - 1, N - 2}, {N - 2, N - 1, N - 2},
            {0, 2, N - 3}, {N - 1, 1, N - 3}, {63, 64, N - 2}, {0, 13859, 13860},
            {0, 13861, 13860}, {1, 13860, 13860}, {5, 6935, 20789},
            {13860, 13861, N - 2}, {27000, 500, 26499}, {500, 27000, 26499}};
        for (int[] d : due) {
            Due.same("gap() of hits at " + d[0] + " and " + d[1], gapOf(d[0], d[1]), d[2]);
        }
    }

    /** The gap of a ray that meets the wall at two places and is soaked up. */
    private static int gapOf(int first, int second) {
        int way = Math.floorMod(second - first, N);
        int step = way > N / 2 ? way - N : way;
        GalleryRays x = Due.wall(0, 1);
        x.add(SOAK, second, 1, 1000);
        Due.same("hits", x.shoot(Math.floorMod(first - step, N), step, 1), 2);
        return x.gap();
    }

    /** Hits all around, so that the longest stretch is short. */
    private static void gapOfManyHits() {
        GalleryRays x = Due.wall(0, 1);
        int[][] due = {{0, 55, 54}, {N - 1, 55, 54}, {54, -55, 54}, {0, 13805, 54}, {7, 9240, 9239},
            {0, 6930, 6929}, {0, 46, 165}, {0, 1, N - 600}, {N - 301, 1, N - 600}};
        for (int[] d : due) {
            x.shoot(d[0], d[1], 1);
            Due.same("gap() of step " + d[1] + " from " + d[0], x.gap(), d[2]);
        }
    }

    /** "What a part hears is the energy as it is when the part acts." */
    private static void hearsAsThePartActs() {
        GalleryRays x = Due.wall(100, 1);
        x.add(HEAR, 20, 1, 0);
        x.add(SOAK, 20, 1, 500);
        x.add(HEAR, 20, 1, 0);
        x.add(SPLIT, 20, 1, 2);
        x.add(HEAR, 20, 1, 0);
        x.add(SOAK, 20, 1, 1000);
        x.add(HEAR, 20, 1, 0);
        x.shoot(0, 20, 1000);
        Due.same("after the loss", x.heard(0, 3), 900);
        Due.same("after the soak", x.heard(2, 3), 450);
        Due.same("after the split", x.heard(4, 3), 225);
        Due.same("nothing is left", x.heard(6, 3), 0);
        Due.same("but it is heard", x.heard(6, 0), 1);
        Due.same("at its time", x.heard(6, 2), x.time(20));
        Due.same("a split hears nothing", x.heard(3, 0), 0);
        Due.same("a soak hears nothing", x.heard(1, 0), 0);
    }

    /** Promise 17: "part: 0 to 11", "what: 0 .. 3". */
    private static void heardAtTheEnds() {
        GalleryRays x = Due.wall(0, 600);
        for (int i = 0; i < 12; i++) {
            x.add(HEAR, i + 1, 1, 0);
        }
        x.shoot(0, 1, 600);
        Due.same("heard(-1, 0)", x.heard(-1, 0), BAD);
        Due.same("heard(0, 0)", x.heard(0, 0), 1);
        Due.same("heard(11, 0)", x.heard(11, 0), 1);
        Due.same("heard(12, 0)", x.heard(12, 0), BAD);
        Due.same("heard(0, -1)", x.heard(0, -1), BAD);
        Due.same("heard(0, 3)", x.heard(0, 3), 600);
        Due.same("heard(0, 4)", x.heard(0, 4), BAD);
        Due.same("heard(11, -1)", x.heard(11, -1), BAD);
        Due.same("heard(11, 2)", x.heard(11, 2), 12L * x.time(1));
        Due.same("heard(11, 4)", x.heard(11, 4), BAD);
        Due.same("heard(12, 4)", x.heard(12, 4), BAD);
    }

    /** "by its number at the time of the shot", also where there is no such part now. */
    private static void heardByTheNumberAtTheShot() {
        GalleryRays x = Due.wall(0, 1000);
        for (int i = 0; i < 12; i++) {
            x.add(HEAR, i + 1, 1, 0);
        }
        x.shoot(11, 1, 7);
        Due.same("heard by part 11", x.heard(11, 1), 7);
        x.remove(0);
        Due.same("still heard by part 11", x.heard(11, 1), 7);
        Due.same("not by part 10", x.heard(10, 1), 0);
        x.shoot(11, 1, 8);
        Due.same("now heard by part 10", x.heard(10, 1), 8);
        Due.same("no more by part 11", x.heard(11, 1), 0);
    }

    /** "(NONE if there is none)", "(0 if there is none)". */
    private static void heardNoneAndZero() {
        GalleryRays x = Due.wall(500, 1);
        x.add(HEAR, 10, 1, 0);
        int[][] due = {{0, 5, 1}, {1, 5, 0}, {0, 10, 1}, {0, 9, 0}};
        for (int[] d : due) {
            x.shoot(d[0], d[1], 2);
            boolean heard = d[2] == 1;
            String call = "step " + d[1] + " from " + d[0];
            Due.same(call + ": how often", x.heard(0, 0), heard ? 1 : 0);
            int less = d[1] == 5 ? 0 : 1;
            Due.same(call + ": sum", x.heard(0, 1), heard ? less : 0);
            Due.same(call + ": first", x.heard(0, 2),
                    heard ? (10 / d[1]) * (long) x.time(d[1]) : NONE);
            Due.same(call + ": greatest", x.heard(0, 3), heard ? less : 0);
        }
        GalleryRays y = Due.wall(500, 1);
        y.add(HEAR, 0, N, 0);
        y.shoot(0, 1, 16);
        Due.same("how often", y.heard(0, 0), 5);
        Due.same("sum", y.heard(0, 1), 8 + 4 + 2 + 1);
        Due.same("time of the first", y.heard(0, 2), y.time(1));
        Due.same("greatest", y.heard(0, 3), 8);
    }

    /** Promise 18: "BAD if i is negative; NONE if there are not so many". */
    private static void echoesAtTheEnds() {
        GalleryRays x = Due.wall(0, 1);
        Due.same("echo(-1) without a shot", x.echo(-1), BAD);
        Due.same("echo(0) without a shot", x.echo(0), NONE);
        x.add(HEAR, 3, 2, 0);
        x.add(SOAK, 6, 1, 1000);
        x.shoot(0, 1, 9);
        Due.same("echo(-1)", x.echo(-1), BAD);
        Due.same("echo(0)", x.echo(0), 2);
        Due.same("echo(1)", x.echo(1), 3);
        Due.same("echo(2)", x.echo(2), NONE);
        x.add(HEAR, 0, N, 0);
        x.shoot(7, 1, 9);
        Due.same("echo(598) of 600", x.echo(598), 598);
        Due.same("echo(599) of 600", x.echo(599), 599);
        Due.same("echo(600) of 600", x.echo(600), NONE);
        x.shoot(5, 1, 9);
        Due.same("echo(0) after a soak", x.echo(0), 0);
        Due.same("echo(1) of one", x.echo(1), NONE);
    }

    /** "(one that several parts heard is one echo)". */
    private static void echoOfSeveralParts() {
        GalleryRays x = Due.wall(0, 1);
        x.add(HEAR, 2, 1, 0);
        x.add(HEAR, 2, 2, 0);
        x.add(HEAR, 1, 2, 0);
        x.add(SOAK, 5, 1, 1000);
        x.shoot(0, 1, 9);
        Due.same("echo(0), heard once", x.echo(0), 0);
        Due.same("echo(1), heard by three", x.echo(1), 1);
        Due.same("echo(2), heard once", x.echo(2), 2);
        Due.same("echo(3)", x.echo(3), NONE);
        x.shoot(1, 1, 9);
        Due.same("echo(0), heard by three", x.echo(0), 0);
        Due.same("echo(1), heard once", x.echo(1), 1);
        Due.same("echo(2)", x.echo(2), NONE);
    }

    // ---- promise 19

    /** "0 without hits". */
    private static void meanWithoutHits() {
        GalleryRays x = new GalleryRays();
        Due.same("mean() without hits", (double) x.mean(), 0.0);
        x.shoot(0, 0, 1);
        Due.same("mean() after a refused shot", (double) x.mean(), 0.0);
        x.shoot(0, 1, 1);
        Due.same("mean() of one hit", (double) x.mean(), 1.0);
        x.shoot(0, 1, 999);
        Due.same("mean() of one hit", (double) x.mean(), 999.0);
    }

    /** "their sum, as a float, divided by their number, as a float". */
    private static void meanOfFloats() {
        GalleryRays x = Due.wall(500, 1);
        x.shoot(0, 1, 7);
        Due.same("mean() of 7, 3, 1", (double) x.mean(), 3.6666667461395264);
        x.shoot(0, 1, 5);
        Due.same("mean() of 5, 2, 1", (double) x.mean(), 2.6666667461395264);
        x.setLoss(0);
        // 600 times 999999 is 599999400, as a float 599999424.
        x.shoot(0, 1, 999999);
        Due.same("mean() of 999999", (double) x.mean(), 999999.0625);
        x.shoot(0, 1, 1000000);
        Due.same("mean() of a million", (double) x.mean(), 1000000.0);
    }

    // ---- promise 20

    /** "chords: 0 to 200, how many of its chords, from the first one on". */
    private static void crossingsAtTheEnds() {
        GalleryRays x = Due.wall(0, 1);
        x.shoot(3, 11088, 1);
        Due.same("crossings(-1)", x.crossings(-1), BAD);
        int[] due = {0, 0, 0, 1, 3, 5, 7, 9};
        for (int chords = 0; chords < due.length; chords++) {
            Due.same("crossings(" + chords + ")", x.crossings(chords), due[chords]);
        }
        // Each chord of a star with five points crosses two of the other four.
        Due.same("crossings(199)", x.crossings(199), 3 * 40 * 40 + 2 * 40 * 39);
        Due.same("crossings(200)", x.crossings(200), 5 * 40 * 40);
        Due.same("crossings(201)", x.crossings(201), BAD);
    }

    /** "(all, if it has fewer)". */
    private static void crossingsOfFewerChords() {
        int[] due = {0, 0, 0, 1, 3, 5};
        for (int chords = 1; chords < due.length; chords++) {
            GalleryRays x = Due.wall(500, 1);
            Due.same("hits", x.shoot(N - 1, 11088, 1 << (chords - 1)), chords);
            Due.same("crossings(" + (chords - 1) + ")", x.crossings(chords - 1), due[chords - 1]);
            Due.same("crossings(" + chords + ")", x.crossings(chords), due[chords]);
            Due.same("crossings(" + (chords + 1) + ")", x.crossings(chords + 1), due[chords]);
            Due.same("crossings(200) of " + chords, x.crossings(200), due[chords]);
        }
    }

    /** "the first chords of ray 0 in the shot". */
    private static void crossingsOfRayZero() {
        GalleryRays x = Due.wall(0, 1);
        x.add(SPLIT, 11088, 1, -5544);
        x.add(SPLIT, 11088, 1, 300);
        x.shoot(0, 11088, 1000000);
        Due.holds("many rays", x.rays() > 10);
        int[] due = {0, 0, 0, 1, 3, 5, 7, 9};
        for (int chords = 0; chords < due.length; chords++) {
            Due.same("crossings(" + chords + ")", x.crossings(chords), due[chords]);
        }
    }

    /**
     * "(chords with a common end do not cross)": the third chord ends on the one side of the first
     * one, at its end, or on the other side. The first one goes from 27000 around to 500, the
     * second one to 2000.
     */
    private static void chordsWithACommonEnd() {
        int[][] due = {{26999, 0}, {27000, 0}, {27001, 1}, {N - 1, 1}, {0, 1}, {1, 1}, {499, 1},
            {500, 0}, {501, 0}, {1999, 0}};
        for (int[] d : due) {
            GalleryRays x = Due.wall(0, 1);
            x.add(TILT, 500, 1, 280);
            x.add(BACK, 2000, 1, 0);
            int way = Math.floorMod(2000 - d[0], N);
            x.add(TILT, 2000, 1, way - 1500);
            x.shoot(27000, 1220, 1);
            Due.same("place of the third hit", x.hit(2, 1), d[0]);
            Due.same("crossings(2) before " + d[0], x.crossings(2), 0);
            Due.same("crossings(3) to " + d[0], x.crossings(3), d[1]);
        }
    }

    // ---- all

    /** "An object is used for at most 512 calls after it has been made". */
    private static void lastCallsOfAnObject() {
        GalleryRays x = new GalleryRays();
        x.setThreshold(1);
        x.add(SPLIT, 0, N, 1);
        for (int call = 3; call <= 511; call++) {
            Due.same("hits of call " + call, x.shoot(call, 77, 1000000), 600);
        }
        Due.same("rays() by the last call", x.rays(), 100);
    }
}
