/**
 * The bounds that the heads WALL and SIN and promises 21 to 26 name: what holds just inside of
 * each and just outside. A test for each sentence, which stands above it.
 */
public final class CircleEdgeTest {
    private static final int N = 27720;
    private static final int BAD = GalleryRays.BAD;
    private static final int NONE = GalleryRays.NONE;

    public static void main(String[] args) {
        placesEnd();
        placesWrapAround();
        stepsEnd();
        stepsMoveRays();
        anglesStay();
        timesAreRoundedDown();
        radiiAreRoundedDown();
        timesAreNeeded();
        timesAndRadiiAtTheEnds();
        ordersAtTheEnds();
        raysComeBackByTheirOrder();
        turnsGoEitherDirection();
        aimsBetweenTheLastPlaces();
        aimsByTheFewestAndTheMostChords();
        aimsWithTheSmallestStep();
        aimsWithThePositiveOfTwo();
        aimsThroughThePlaceBefore();
        aimsWithTheLongestStep();
        aimsAtNone();
        widestAtTheEnds();
        Due.finish();
    }

    /** Nothing is lost on the way, and any ray goes on. */
    private static GalleryRays lossless() {
        return Due.wall(0, 1);
    }

    // ---- WALL

    /** "A place is a unit from 0 to N - 1". */
    private static void placesEnd() {
        int[][] due = {{-1, 0}, {0, 1}, {N - 1, 1}, {N, 0}};
        for (int[] d : due) {
            int place = d[0];
            boolean is = d[1] == 1;
            GalleryRays x = lossless();
            Due.same("add at " + place, x.add(4, place, 1, 0), is ? 0 : BAD);
            Due.same("shoot from " + place, x.shoot(place, 1, 1), is ? 600 : BAD);
            Due.same("hits() of shoot from " + place, x.hits(), is ? 600 : 0);
            Due.same("aim from " + place, x.aim(place, 5, 1), is ? 5 - wrapped(place) : BAD);
            Due.same("aim to " + place, x.aim(5, place, 1), is ? wrapped(place) - 5 : BAD);
        }
    }

    /** The places 0 and N - 1 as they lie seen from place 5: 0 and -1. */
    private static int wrapped(int place) {
        return place > N / 2 ? place - N : place;
    }

    /** "places are taken modulo N". */
    private static void placesWrapAround() {
        int[][] due = {{N - 2, 1, N - 1}, {N - 1, 1, 0}, {1, -1, 0}, {0, -1, N - 1},
            {13860, 13859, N - 1}, {13861, 13859, 0}, {N - 1, 13859, 13858},
            {13859, -13859, 0}, {13858, -13859, N - 1}, {0, -13859, 13861}};
        for (int[] d : due) {
            GalleryRays x = lossless();
            x.shoot(d[0], d[1], 1);
            Due.same("place of shoot(" + d[0] + ", " + d[1] + ", 1)", x.hit(0, 1), d[2]);
        }
    }

    /** "A step is a number of units from -13859 to 13859, but not 0". */
    private static void stepsEnd() {
        int[][] due = {{-13860, 0}, {-13859, 1}, {-1, 1}, {0, 0}, {1, 1}, {13859, 1}, {13860, 0}};
        for (int[] d : due) {
            int step = d[0];
            boolean is = d[1] == 1;
            GalleryRays x = lossless();
            Due.same("shoot(7, " + step + ", 1)", x.shoot(7, step, 1), is ? 600 : BAD);
            Due.same("hits() of step " + step, x.hits(), is ? 600 : 0);
            boolean isShort = step == 1 || step == -1;
            Due.same("time(" + step + ")", x.time(step), is ? isShort ? 230 : 1999999 : BAD);
            Due.same("caustic(" + step + ")", x.caustic(step), is ? isShort ? 999999 : 115 : BAD);
            Due.same("order(" + step + ")", x.order(step), is ? N : BAD);
            Due.same("turns(" + step + ")", x.turns(step), is ? Math.abs(step) : BAD);
        }
    }

    /** "a ray with the step s that leaves the wall at the place p meets it again at p + s". */
    private static void stepsMoveRays() {
        GalleryRays x = lossless();
        x.shoot(100, 77, 1);
        Due.same("first place by 77", x.hit(0, 1), 177);
        Due.same("second place by 77", x.hit(1, 1), 254);
        x.shoot(300, -77, 1);
        Due.same("first place by -77", x.hit(0, 1), 223);
        Due.same("second place by -77", x.hit(1, 1), 146);
    }

    /** "The angle .. stays the same as long as its step keeps its absolute value." */
    private static void anglesStay() {
        GalleryRays x = lossless();
        x.add(1, 1000, 1, 0);
        x.shoot(0, 1000, 1);
        for (int i = 0; i < 20; i++) {
            Due.same("time of hit " + i, x.hit(i, 2), (i + 1L) * x.time(1000));
            Due.same("step of hit " + i, x.hit(i, 4), i % 28 == 0 ? 1000 : -1000);
        }
    }

    // ---- SIN

    /** "the length of its chord is .., rounded down": exact, just above and just below. */
    private static void timesAreRoundedDown() {
        GalleryRays x = new GalleryRays();
        int[][] due = {{4620, 1000000}, {5775, 1216000}, {8820, 1680000}, {9900, 1800000},
            {5910, 1239990}, {263, 60601}, {1660, 377302}, {6939, 1413201}, {7434, 1490009}};
        for (int[] d : due) {
            Due.same("time(" + d[0] + ")", x.time(d[0]), d[1]);
            Due.same("time(-" + d[0] + ")", x.time(-d[0]), d[1]);
        }
    }

    /** "The radius of the caustic of a step .. is .., rounded down": exact, above and below. */
    private static void radiiAreRoundedDown() {
        GalleryRays x = new GalleryRays();
        int[][] due = {{3960, 900000}, {5040, 840000}, {8085, 608000}, {9240, 500000},
            {7950, 619995}, {6081, 770427}, {6921, 706600}, {6426, 745004}, {12393, 167087}};
        for (int[] d : due) {
            Due.same("caustic(" + d[0] + ")", x.caustic(d[0]), d[1]);
            Due.same("caustic(-" + d[0] + ")", x.caustic(-d[0]), d[1]);
        }
    }

    /** "this is also the time that a ray needs for it". */
    private static void timesAreNeeded() {
        int[] steps = {1, -1, 1660, -4620, 13859, -13859};
        for (int step : steps) {
            GalleryRays x = lossless();
            x.shoot(0, step, 1);
            Due.same("time of the first hit by " + step, x.hit(0, 2), x.time(step));
            Due.same("time of the last hit by " + step, x.hit(599, 2), 600L * x.time(step));
        }
    }

    /** Promises 21 and 22 with the shortest and the longest steps, and the next to them. */
    private static void timesAndRadiiAtTheEnds() {
        GalleryRays x = new GalleryRays();
        int[][] due = {{1, 230, 999999}, {2, 461, 999999}, {3, 692, 999999},
            {13857, 1999999, 346}, {13858, 1999999, 230}, {13859, 1999999, 115}};
        for (int[] d : due) {
            Due.same("time(" + d[0] + ")", x.time(d[0]), d[1]);
            Due.same("time(-" + d[0] + ")", x.time(-d[0]), d[1]);
            Due.same("caustic(" + d[0] + ")", x.caustic(d[0]), d[2]);
            Due.same("caustic(-" + d[0] + ")", x.caustic(-d[0]), d[2]);
        }
    }

    // ---- promises 23 and 24

    /** "the least number of chords, 1 or more": no step comes back in fewer than three. */
    private static void ordersAtTheEnds() {
        GalleryRays x = new GalleryRays();
        int[][] due = {{1, N}, {2, N / 2}, {3, N / 3}, {13, N}, {9239, N}, {9240, 3}, {9241, N},
            {6930, 4}, {11088, 5}, {12320, 9}, {13858, N / 2}, {13859, N}};
        for (int[] d : due) {
            Due.same("order(" + d[0] + ")", x.order(d[0]), d[1]);
            Due.same("order(-" + d[0] + ")", x.order(-d[0]), d[1]);
        }
    }

    /** "after how many chords a ray comes back to its place, without parts". */
    private static void raysComeBackByTheirOrder() {
        int[] steps = {9240, -9240, 6930, 11088, -11088, 12320, 440, -440};
        for (int step : steps) {
            GalleryRays x = lossless();
            x.shoot(N - 1, step, 1);
            int order = x.order(step);
            for (int i = 0; i < order - 1; i++) {
                Due.holds("step " + step + " is not back by chord " + i, x.hit(i, 1) != N - 1);
            }
            Due.same("place after the order of " + step, x.hit(order - 1, 1), N - 1);
        }
        GalleryRays x = lossless();
        x.shoot(3, 55, 1);
        Due.same("order(55)", x.order(55), 504);
        Due.same("places of step 55", x.coverage(), 504);
        Due.same("place after 504 chords", x.hit(503, 1), 3);
    }

    /** "how often a ray goes around the circle (in either direction)". */
    private static void turnsGoEitherDirection() {
        GalleryRays x = new GalleryRays();
        int[][] due = {{1, 1}, {2, 1}, {13, 13}, {9239, 9239}, {9240, 1}, {9241, 9241},
            {11088, 2}, {12320, 4}, {13805, 251}, {13858, 6929}, {13859, 13859}};
        for (int[] d : due) {
            Due.same("turns(" + d[0] + ")", x.turns(d[0]), d[1]);
            Due.same("turns(-" + d[0] + ")", x.turns(-d[0]), d[1]);
        }
    }

    // ---- promise 25

    /** "from: 0 to N - 1", "to: 0 to N - 1". */
    private static void aimsBetweenTheLastPlaces() {
        GalleryRays x = new GalleryRays();
        int[][] due = {{0, N - 1, -1}, {N - 1, 0, 1}, {N - 1, N - 2, -1}, {1, 0, -1},
            {0, N, BAD}, {N, 0, BAD}, {0, -1, BAD}, {-1, 0, BAD}, {N, N, BAD}, {-1, -1, BAD}};
        for (int[] d : due) {
            Due.same("aim(" + d[0] + ", " + d[1] + ", 1)", x.aim(d[0], d[1], 1), d[2]);
        }
    }

    /** "chords: 1 to 50". */
    private static void aimsByTheFewestAndTheMostChords() {
        GalleryRays x = new GalleryRays();
        Due.same("aim(5, 6, 0)", x.aim(5, 6, 0), BAD);
        Due.same("aim(5, 5, 0)", x.aim(5, 5, 0), BAD);
        Due.same("aim(5, 6, 1)", x.aim(5, 6, 1), 1);
        Due.same("aim(5, 55, 50)", x.aim(5, 55, 50), 1);
        Due.same("aim(5, 56, 51)", x.aim(5, 56, 51), BAD);
        Due.same("aim(5, 4, -1)", x.aim(5, 4, -1), BAD);
    }

    /** "the step with the smallest absolute value". */
    private static void aimsWithTheSmallestStep() {
        GalleryRays x = new GalleryRays();
        // Two chords go half the way, or half the way and a half circle.
        Due.same("aim(0, 2, 2)", x.aim(0, 2, 2), 1);
        Due.same("aim(0, 13858, 2)", x.aim(0, 13858, 2), 6929);
        Due.same("aim(0, 13862, 2)", x.aim(0, 13862, 2), -6929);
        // 50 steps of 1109 units are twice the circle and 10 units; so are 50 of -1663.
        Due.same("aim(0, 10, 50)", x.aim(0, 10, 50), 1109);
        Due.same("aim(27719, 9, 50)", x.aim(27719, 9, 50), 1109);
        Due.same("aim(10, 0, 50)", x.aim(10, 0, 50), -1109);
        Due.same("aim(9, 27719, 50)", x.aim(9, 27719, 50), -1109);
    }

    /** "of two the positive one". */
    private static void aimsWithThePositiveOfTwo() {
        GalleryRays x = new GalleryRays();
        Due.same("aim(0, 13860, 2)", x.aim(0, 13860, 2), 6930);
        Due.same("aim(13860, 0, 2)", x.aim(13860, 0, 2), 6930);
        Due.same("aim(9, 9, 3)", x.aim(9, 9, 3), 9240);
        Due.same("aim(9, 9, 50)", x.aim(9, 9, 50), 2772);
        Due.same("aim(0, 13860, 50)", x.aim(0, 13860, 50), 1386);
        Due.same("aim(13860, 0, 50)", x.aim(13860, 0, 50), 1386);
    }

    /** "just so many chords (it may be there before, too)". */
    private static void aimsThroughThePlaceBefore() {
        GalleryRays x = lossless();
        Due.same("aim(7, 7, 9)", x.aim(7, 7, 9), 3080);
        Due.same("aim(7, 7, 27), back at 7 after 9 too", x.aim(7, 7, 27), 3080);
        Due.same("aim(7, 7, 50), back at 7 after 10 too", x.aim(7, 7, 50), 2772);
        Due.same("aim(0, 2772, 1)", x.aim(0, 2772, 1), 2772);
        Due.same("aim(0, 2772, 41), there after 1 too", x.aim(0, 2772, 41), 2772);
        x.shoot(7, 3080, 1);
        Due.same("place of 3080 after 9", x.hit(8, 1), 7);
        Due.same("place of 3080 after 27", x.hit(26, 1), 7);
    }

    /** The answer is a step: 13859 units at the most. */
    private static void aimsWithTheLongestStep() {
        GalleryRays x = new GalleryRays();
        int[][] due = {{13859, 1, 13859}, {13860, 1, NONE}, {13861, 1, -13859},
            {13847, 13, 13859}, {13860, 13, NONE}, {13873, 13, -13859},
            {13813, 47, 13859}, {13860, 47, NONE}, {13907, 47, -13859}};
        for (int[] d : due) {
            Due.same("aim(0, " + d[0] + ", " + d[1] + ")", x.aim(0, d[0], d[1]), d[2]);
        }
    }

    /** "NONE if there is none". */
    private static void aimsAtNone() {
        GalleryRays x = new GalleryRays();
        Due.same("aim(8, 8, 1): 0 is no step", x.aim(8, 8, 1), NONE);
        Due.same("aim(8, 8, 2): half the circle is no step", x.aim(8, 8, 2), NONE);
        Due.same("aim(8, 8, 3)", x.aim(8, 8, 3), 9240);
        Due.same("aim(0, 9, 50)", x.aim(0, 9, 50), NONE);
        Due.same("aim(0, 10, 50)", x.aim(0, 10, 50), 1109);
        Due.same("aim(0, 11, 50)", x.aim(0, 11, 50), NONE);
        Due.same("aim(0, 1, 2)", x.aim(0, 1, 2), NONE);
    }

    // ---- promise 26

    /** "radius: 0 to 1000000", "at least a radius", "NONE if there is none". */
    private static void widestAtTheEnds() {
        GalleryRays x = new GalleryRays();
        Due.same("widest(-1)", x.widest(-1), BAD);
        Due.same("widest(0)", x.widest(0), 1);
        Due.same("widest(999998)", x.widest(999998), 1);
        Due.same("widest(999999)", x.widest(999999), 1);
        Due.same("widest(1000000)", x.widest(1000000), NONE);
        Due.same("widest(1000001)", x.widest(1000001), BAD);
        Due.same("the radius that is reached", x.caustic(x.widest(999999)), 999999);
        Due.same("the order that is reached", x.order(x.widest(0)), N);
    }
}
