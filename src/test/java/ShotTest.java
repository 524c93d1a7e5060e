/** Promises 11 to 20: shots and what is told of them. */
public final class ShotTest {
    private static final int BAD = GalleryRays.BAD;
    private static final int NONE = GalleryRays.NONE;
    /** The time of a chord of a third of the circle. */
    private static final long THIRD = 1729729;

    public static void main(String[] args) {
        shootRefuses();
        plainRay();
        backwardRay();
        threshold();
        mostHits();
        hitRefuses();
        soaks();
        turnsBack();
        tilts();
        tiltEnds();
        splits();
        splitLosesHalf();
        splitTiesGoByNumber();
        mostRays();
        partsWrapAround();
        partsActInOrder();
        hears();
        heardKeepsNumbers();
        echoes();
        gapsAndCoverage();
        means();
        crosses();
        shotIsNoAct();
        Due.finish();
    }

    private static void shootRefuses() {
        GalleryRays x = Due.wall(0, 1000);
        int[][] bad = {{-1, 1, 1}, {27720, 1, 1}, {0, 0, 1}, {0, 13860, 1}, {0, -13860, 1},
            {0, 1, 0}, {0, 1, -1}, {0, 1, 1000001}, {Integer.MIN_VALUE, 1, 1},
            {Integer.MAX_VALUE, 1, 1}, {0, Integer.MIN_VALUE, 1}, {0, Integer.MAX_VALUE, 1},
            {0, 1, Integer.MIN_VALUE}, {0, 1, Integer.MAX_VALUE}};
        for (int[] a : bad) {
            Due.same("bad shoot at first", x.shoot(a[0], a[1], a[2]), BAD);
        }
        Due.same("rays() without a shot", x.rays(), 0);
        Due.same("shoot", x.shoot(5, 9240, 900), 1);
        for (int[] a : bad) {
            Due.same("shoot(" + a[0] + ", " + a[1] + ", " + a[2] + ")",
                    x.shoot(a[0], a[1], a[2]), BAD);
        }
        Due.same("hits() of the latest shot", x.hits(), 1);
        Due.same("rays() of the latest shot", x.rays(), 1);
        Due.hit(x, 0, 0, 9245, THIRD, 900, 9240);
        Due.same("edges", x.shoot(27719, 13859, 1), 1);
        Due.hit(x, 0, 0, 13858, 1999999, 1, 13859);
        Due.same("edges", x.shoot(0, -13859, 1000000), 600);
        Due.hit(x, 0, 0, 13861, 1999999, 1000000, -13859);
    }

    private static void plainRay() {
        GalleryRays x = Due.wall(10, 95000);
        Due.same("shoot", x.shoot(9000, 9240, 100000), 6);
        Due.same("hits()", x.hits(), 6);
        Due.same("rays()", x.rays(), 1);
        Due.hit(x, 0, 0, 18240, THIRD, 100000, 9240);
        Due.hit(x, 1, 0, 27480, 2 * THIRD, 99000, 9240);
        Due.hit(x, 2, 0, 9000, 3 * THIRD, 98010, 9240);
        Due.hit(x, 3, 0, 18240, 4 * THIRD, 97029, 9240);
        Due.hit(x, 4, 0, 27480, 5 * THIRD, 96058, 9240);
        Due.hit(x, 5, 0, 9000, 6 * THIRD, 95097, 9240);
        Due.same("coverage()", x.coverage(), 3);
    }

    private static void backwardRay() {
        GalleryRays x = Due.wall(0, 1000);
        x.shoot(10, -20, 2000);
        Due.same("place 0", x.hit(0, 1), 27710);
        Due.same("place 1", x.hit(1, 1), 27690);
        Due.same("place 599", x.hit(599, 1), (10 - 20 * 600 % 27720 + 27720) % 27720);
        Due.same("step", x.hit(599, 4), -20);
        Due.same("time", x.hit(599, 2), 600L * x.time(20));
    }

    private static void threshold() {
        GalleryRays x = Due.wall(500, 250);
        Due.same("energy at the threshold goes on", x.shoot(0, 1, 1000), 3);
        Due.same("energy below the threshold", x.shoot(0, 1, 999), 2);
        Due.same("a weak ray has its first hit", x.shoot(0, 1, 1), 1);
        x.setThreshold(1);
        Due.same("down to one", x.shoot(0, 1, 8), 4);
        Due.same("energy of the last", x.hit(3, 3), 1);
        x.setLoss(999);
        Due.same("999 thousandths", x.shoot(0, 1, 1000000), 3);
        Due.same("energy 1", x.hit(1, 3), 1000);
        Due.same("energy 2", x.hit(2, 3), 1);
    }

    private static void mostHits() {
        GalleryRays x = Due.wall(0, 1);
        Due.same("shoot", x.shoot(0, 13859, 1), 600);
        Due.same("hits()", x.hits(), 600);
        Due.same("last time", x.hit(599, 2), 600L * 1999999);
        Due.same("after the last", x.hit(600, 0), BAD);
    }

    private static void hitRefuses() {
        GalleryRays x = Due.wall(10, 1000000);
        Due.same("hit(0, 0) without a shot", x.hit(0, 0), BAD);
        Due.same("shoot", x.shoot(1, 2, 3), 1);
        Due.hit(x, 0, 0, 3, x.time(2), 3, 2);
        Due.same("hit(1, 0)", x.hit(1, 0), BAD);
        Due.same("hit(-1, 0)", x.hit(-1, 0), BAD);
        Due.same("hit(0, -1)", x.hit(0, -1), BAD);
        Due.same("hit(0, 5)", x.hit(0, 5), BAD);
        Due.same("hit(MAX, 0)", x.hit(Integer.MAX_VALUE, 0), BAD);
        Due.same("hit(MIN, 0)", x.hit(Integer.MIN_VALUE, 0), BAD);
        Due.same("hit(0, MAX)", x.hit(0, Integer.MAX_VALUE), BAD);
        Due.same("hit(0, MIN)", x.hit(0, Integer.MIN_VALUE), BAD);
    }

    private static void soaks() {
        GalleryRays x = Due.wall(10, 200);
        x.add(0, 9240, 1, 333);
        Due.same("shoot", x.shoot(0, 9240, 1000), 10);
        // 1000 less the loss is 990, less 333 thousandths is 660.33.
        Due.same("soaked", x.hit(1, 3), 660);
        Due.same("only where the part is", x.hit(2, 3), 653);
        x.add(0, 9240, 1, 1000);
        Due.same("soaked up", x.shoot(0, 9240, 1000000), 1);
    }

    private static void turnsBack() {
        GalleryRays x = Due.wall(0, 1);
        x.add(1, 9240, 1, 0);
        x.shoot(0, 9240, 5);
        Due.hit(x, 0, 0, 9240, THIRD, 5, 9240);
        Due.hit(x, 1, 0, 0, 2 * THIRD, 5, -9240);
        Due.hit(x, 2, 0, 18480, 3 * THIRD, 5, -9240);
        Due.hit(x, 3, 0, 9240, 4 * THIRD, 5, -9240);
        Due.hit(x, 4, 0, 18480, 5 * THIRD, 5, 9240);
        x.add(1, 9240, 1, 0);
        x.shoot(0, 9240, 5);
        Due.same("turned back twice", x.hit(1, 1), 18480);
    }

    private static void tilts() {
        GalleryRays x = Due.wall(0, 1);
        x.add(2, 100, 1, 50);
        x.shoot(0, 100, 5);
        Due.hit(x, 0, 0, 100, x.time(100), 5, 100);
        Due.hit(x, 1, 0, 250, x.time(100) + x.time(150), 5, 150);
        x.shoot(200, -100, 5);
        Due.hit(x, 0, 0, 100, x.time(100), 5, -100);
        Due.hit(x, 1, 0, 27670, x.time(100) + x.time(150), 5, -150);
        x.remove(0);
        x.add(2, 100, 1, -30);
        x.shoot(0, 100, 5);
        Due.same("place after tilt by -30", x.hit(1, 1), 170);
        x.shoot(200, -100, 5);
        Due.same("place after tilt by -30, backward", x.hit(1, 1), 30);
    }

    private static void tiltEnds() {
        tiltTo(100, -99, 1);
        tiltTo(-100, -99, -1);
        tiltTo(100, -100, 0);
        tiltTo(-100, -100, 0);
        tiltTo(100, -101, 0);
        tiltTo(-100, -101, 0);
        tiltTo(13000, 859, 13859);
        tiltTo(-13000, 859, -13859);
        tiltTo(13000, 860, 0);
        tiltTo(-13000, 860, 0);
        tiltTo(13859, 1, 0);
        tiltTo(13859, 9999, 0);
        tiltTo(5000, -9999, 0);
        tiltTo(9999, -9999, 0);
        tiltTo(10000, -9999, 1);
        tiltTo(77, 0, 77);
        tiltTo(1, 5, 6);
        tiltTo(-1, 5, -6);
    }

    /** The step becomes want; a want of 0 ends the ray before the later part hears it. */
    private static void tiltTo(int step, int k, int want) {
        GalleryRays x = Due.wall(0, 1);
        int place = Math.floorMod(step, 27720);
        x.add(2, place, 1, k);
        x.add(4, place, 1, 0);
        String call = "tilt of " + step + " by " + k;
        int hits = x.shoot(0, step, 9);
        if (want == 0) {
            Due.same(call + ": hits", hits, 1);
            Due.same(call + ": heard", x.heard(1, 0), 0);
        } else {
            Due.same(call + ": step", x.hit(1, 4), want);
            Due.same(call + ": place", x.hit(1, 1), Math.floorMod(place + want, 27720));
            Due.same(call + ": first heard", x.heard(1, 2), x.time(step));
        }
    }

    private static void splits() {
        GalleryRays x = Due.wall(10, 100);
        x.add(3, 9240, 1, -3000);
        x.add(4, 9240, 1, 0);
        x.setThreshold(491);
        Due.same("hits", x.shoot(0, 9240, 1001), 3);
        Due.same("rays", x.rays(), 2);
        Due.hit(x, 0, 0, 9240, THIRD, 1001, 9240);
        // 1001 less the loss is 990: 495 for each; the shorter chord comes first.
        Due.hit(x, 1, 1, 15480, THIRD + x.time(6240), 495, 6240);
        Due.hit(x, 2, 0, 18480, 2 * THIRD, 495, 9240);
        Due.same("the new ray is not heard at once", x.heard(1, 0), 1);
        Due.same("the old ray is heard with its rest", x.heard(1, 1), 495);
        x.setLoss(0);
        Due.same("odd energy", x.shoot(0, 9240, 1001) > 2 ? x.hit(1, 3) : -1, 500);
        Due.same("the rest of odd energy", x.hit(2, 3), 501);
        x.shoot(18480, -9240, 1001);
        Due.same("step of the new ray, backward", x.hit(1, 4), -6240);
    }

    private static void splitLosesHalf() {
        GalleryRays x = Due.wall(0, 500);
        x.add(3, 9240, 1, 5);
        x.shoot(0, 9240, 1000);
        Due.same("half at the threshold", x.rays(), 2);
        x.shoot(0, 9240, 999);
        Due.same("half below the threshold", x.rays(), 1);
        Due.same("the half is lost all the same", x.hit(1, 3), 500);
        Due.same("the rest goes on", x.hits(), 4);
        x.remove(0);
        x.add(3, 9240, 1, -9240);
        x.shoot(0, 9240, 2001);
        Due.same("a new ray that would end", x.rays(), 1);
        Due.same("its half is lost", x.hit(1, 3), 1001);
        x.remove(0);
        x.add(3, 9240, 1, 4620);
        x.shoot(0, 9240, 2000);
        Due.same("a new ray without a step", x.rays(), 1);
        x.remove(0);
        x.add(3, 9240, 1, 4619);
        x.shoot(0, 9240, 1000);
        Due.same("a new ray with the longest step", x.rays(), 2);
    }

    private static void splitTiesGoByNumber() {
        GalleryRays x = Due.wall(0, 100);
        x.add(3, 0, 27720, 0);
        Due.same("hits", x.shoot(0, 9240, 400), 7);
        Due.same("rays", x.rays(), 4);
        long[][] due = {{0, 400}, {0, 200}, {1, 200}, {0, 100}, {1, 100}, {2, 100}, {3, 100}};
        for (int i = 0; i < due.length; i++) {
            Due.same("ray of hit " + i, x.hit(i, 0), due[i][0]);
            Due.same("energy of hit " + i, x.hit(i, 3), due[i][1]);
        }
        Due.same("time of the last", x.hit(6, 2), 3 * THIRD);
        Due.same("chords of ray 0 alone", x.crossings(200), 0);
    }

    private static void mostRays() {
        GalleryRays x = Due.wall(0, 1);
        for (int i = 0; i < 12; i++) {
            x.add(3, 5, 1, i);
        }
        x.add(3, 5, 1, 0);
        x.shoot(4, 1, 1000000);
        Due.same("rays of twelve splits", x.rays(), 13);
        Due.same("the rest of twelve splits", ray0Energy(x, 1), 245);
        GalleryRays y = Due.wall(0, 1);
        y.add(3, 0, 27720, 0);
        Due.same("hits", y.shoot(0, 1, 1000000), 600);
        Due.same("most rays", y.rays(), 100);
        // 1, 2, 4, .. 64 rays at the first hits make 127; ray 35 makes number 99 and ray 36 none.
        Due.same("ray of hit 63 + 36", y.hit(63 + 36, 0), 36);
        Due.same("energy of ray 99 at its first hit", y.hit(127 + 99, 3), 7812);
        Due.same("ray 99", y.hit(127 + 99, 0), 99);
        Due.same("the half is lost where there is no room", y.hit(127 + 36, 3), 7813);
    }

    private static long ray0Energy(GalleryRays x, int which) {
        int seen = 0;
        for (int i = 0; i < x.hits(); i++) {
            if (x.hit(i, 0) == 0) {
                if (seen == which) {
                    return x.hit(i, 3);
                }
                seen++;
            }
        }
        return -1;
    }

    private static void partsWrapAround() {
        GalleryRays x = Due.wall(0, 1000);
        x.add(4, 27718, 4, 0);
        int[] heardAt = {27718, 27719, 0, 1};
        for (int place : heardAt) {
            x.shoot(Math.floorMod(place - 100, 27720), 100, 1);
            Due.same("heard at " + place, x.heard(0, 0), 1);
        }
        int[] deafAt = {27717, 2, 13860};
        for (int place : deafAt) {
            x.shoot(Math.floorMod(place - 100, 27720), 100, 1);
            Due.same("heard at " + place, x.heard(0, 0), 0);
        }
        x.add(4, 3, 27720, 0);
        x.shoot(Math.floorMod(2 - 100, 27720), 100, 1);
        Due.same("heard by the whole wall", x.heard(1, 0), 1);
    }

    private static void partsActInOrder() {
        GalleryRays x = Due.wall(100, 300);
        x.add(4, 9240, 1, 0);
        x.add(0, 9240, 1, 500);
        x.add(4, 9240, 1, 0);
        x.add(0, 9240, 1, 900);
        x.add(4, 9240, 1, 0);
        x.add(1, 9240, 1, 0);
        x.add(2, 9240, 1, 10);
        Due.same("hits", x.shoot(0, 9240, 1000), 1);
        Due.same("heard before the soak", x.heard(0, 1), 900);
        Due.same("heard after the soak", x.heard(2, 1), 450);
        Due.same("heard below the threshold", x.heard(4, 1), 45);
        x.shoot(0, 9240, 1000000);
        Due.same("back, then tilt", x.hit(1, 4), -9250);
    }

    private static void hears() {
        GalleryRays x = Due.wall(100, 700);
        for (int part = 0; part < 12; part++) {
            Due.same("how often without a shot", x.heard(part, 0), 0);
            Due.same("sum without a shot", x.heard(part, 1), 0);
            Due.same("first without a shot", x.heard(part, 2), NONE);
            Due.same("greatest without a shot", x.heard(part, 3), 0);
        }
        x.add(0, 0, 1, 0);
        x.add(4, 18480, 1, 0);
        Due.same("hits", x.shoot(0, 9240, 2000), 10);
        // 2000, 1800, 1620, 1458, 1312, 1180, 1062, 955, 859, 773, each less the loss.
        Due.same("how often", x.heard(1, 0), 3);
        Due.same("sum", x.heard(1, 1), 1620 + 1180 + 859);
        Due.same("first", x.heard(1, 2), 2 * THIRD);
        Due.same("greatest", x.heard(1, 3), 1620);
        Due.same("a soak hears nothing", x.heard(0, 0), 0);
        int[][] bad = {{-1, 0}, {12, 0}, {0, -1}, {0, 4}, {Integer.MIN_VALUE, 0},
            {Integer.MAX_VALUE, 0}, {0, Integer.MIN_VALUE}, {0, Integer.MAX_VALUE}};
        for (int[] a : bad) {
            Due.same("heard(" + a[0] + ", " + a[1] + ")", x.heard(a[0], a[1]), BAD);
        }
        Due.same("heard(11, 3)", x.heard(11, 3), 0);
    }

    private static void heardKeepsNumbers() {
        GalleryRays x = Due.wall(0, 1000);
        x.add(0, 5, 1, 0);
        x.add(4, 9240, 1, 0);
        x.shoot(0, 9240, 7);
        x.remove(0);
        x.remove(0);
        Due.same("heard by its number at the shot", x.heard(1, 3), 7);
        Due.same("heard(0, 0)", x.heard(0, 0), 0);
        x.undo();
        x.undo();
        Due.same("heard after undo", x.heard(1, 3), 7);
        x.shoot(1, 9240, 7);
        Due.same("heard in a later shot", x.heard(1, 0), 0);
        Due.same("sum in a later shot", x.heard(1, 1), 0);
        Due.same("first in a later shot", x.heard(1, 2), NONE);
        Due.same("greatest in a later shot", x.heard(1, 3), 0);
        x.add(0, 9240, 1, 1000);
        x.add(4, 9240, 1, 0);
        x.shoot(0, 9240, 7);
        Due.same("silence is heard", x.heard(3, 0), 1);
        Due.same("silence has a time", x.heard(3, 2), THIRD);
        Due.same("silence is 0", x.heard(3, 3), 0);
    }

    private static void echoes() {
        GalleryRays x = Due.wall(0, 1000);
        Due.same("echo(-1) without a shot", x.echo(-1), BAD);
        Due.same("echo(0) without a shot", x.echo(0), NONE);
        x.add(4, 9240, 1, 0);
        x.add(4, 9240, 9241, 0);
        Due.same("hits", x.shoot(0, 9240, 1000), 600);
        Due.same("echo(0)", x.echo(0), 0);
        Due.same("echo(1)", x.echo(1), 1);
        Due.same("echo(2)", x.echo(2), 3);
        Due.same("echo(3)", x.echo(3), 4);
        Due.same("echo(399)", x.echo(399), 598);
        Due.same("echo(400)", x.echo(400), NONE);
        Due.same("echo(MAX)", x.echo(Integer.MAX_VALUE), NONE);
        Due.same("echo(-1)", x.echo(-1), BAD);
        Due.same("echo(MIN)", x.echo(Integer.MIN_VALUE), BAD);
        x.add(4, 0, 27720, 0);
        x.shoot(0, 9240, 1000);
        Due.same("echo(599)", x.echo(599), 599);
        Due.same("echo(600)", x.echo(600), NONE);
        x.shoot(0, 9240, 1);
        Due.same("echo(1) of a single hit", x.echo(1), NONE);
        x.remove(2);
        x.shoot(1, 9240, 1);
        Due.same("echo(0) at 9241", x.echo(0), 0);
        x.shoot(0, 5, 1);
        Due.same("echo(0) unheard", x.echo(0), NONE);
    }

    private static void gapsAndCoverage() {
        GalleryRays x = Due.wall(0, 1000);
        x.shoot(0, 9240, 1);
        Due.same("coverage() of one hit", x.coverage(), 1);
        Due.same("gap() of one hit", x.gap(), 27719);
        x.shoot(27718, 1, 1);
        Due.same("gap() before a hit at the last place", x.gap(), 27719);
        x.shoot(39, 1, 1000);
        Due.same("gap() behind hits at places 40 to 639", x.gap(), 27720 - 600);
        x.shoot(27719, 1, 1000);
        Due.same("coverage() of 600 hits", x.coverage(), 600);
        Due.same("gap() behind the hits", x.gap(), 27720 - 600);
        x.shoot(27718, 1, 1000);
        Due.same("gap() between the hits", x.gap(), 27720 - 600);
        x.shoot(100, -1, 1000);
        Due.same("gap() around the start", x.gap(), 27720 - 600);
        x.shoot(63, 13860 / 2, 1000);
        Due.same("coverage() of a square", x.coverage(), 4);
        Due.same("gap() of a square", x.gap(), 6929);
        x.add(2, 10, 1, 90);
        x.add(0, 100 + 10, 1, 1000);
        x.shoot(0, 10, 1000);
        Due.same("coverage() of two hits", x.coverage(), 2);
        Due.same("gap() of two hits", x.gap(), 27720 - 101);
        x.shoot(0, 5544, 1);
        x.shoot(0, 5545, -1);
        Due.same("coverage() after a refused shot", x.coverage(), 1);
    }

    private static void means() {
        GalleryRays x = Due.wall(500, 300);
        Due.same("mean() without hits", (double) x.mean(), 0.0);
        x.shoot(0, 77, 1000);
        Due.same("mean() of two", (double) x.mean(), 750.0);
        x.shoot(0, 77, 299);
        Due.same("mean() of one", (double) x.mean(), 299.0);
        x.setThreshold(1);
        x.shoot(0, 77, 7);
        Due.same("mean() of 7, 3, 1", (double) x.mean(), (double) (11f / 3f));
        x.setLoss(0);
        x.shoot(0, 77, 999999);
        Due.same("mean() of a great sum", (double) x.mean(),
                (double) ((float) (600L * 999999) / 600f));
    }

    private static void crosses() {
        GalleryRays x = Due.wall(0, 1);
        Due.same("crossings(200) without a shot", x.crossings(200), 0);
        // A star with five points.
        x.shoot(3, 11088, 1);
        int[] due = {0, 0, 0, 1, 3, 5, 7, 9, 12, 16, 20};
        for (int chords = 0; chords < due.length; chords++) {
            Due.same("crossings(" + chords + ")", x.crossings(chords), due[chords]);
        }
        Due.same("crossings(200)", x.crossings(200), 5 * 40 * 40);
        Due.same("crossings(-1)", x.crossings(-1), BAD);
        Due.same("crossings(201)", x.crossings(201), BAD);
        Due.same("crossings(MAX)", x.crossings(Integer.MAX_VALUE), BAD);
        Due.same("crossings(MIN)", x.crossings(Integer.MIN_VALUE), BAD);
        x.shoot(3, -11088, 1);
        Due.same("crossings(10) backward", x.crossings(10), 20);
        x.shoot(3, 5544, 1);
        Due.same("crossings(200) of a pentagon", x.crossings(200), 0);
        x.setLoss(500);
        Due.same("three hits", x.shoot(3, 11088, 4), 3);
        Due.same("crossings(200) of three chords", x.crossings(200), 1);
        x.setThreshold(2);
        x.shoot(3, 11088, 1);
        Due.same("crossings(200) of one chord", x.crossings(200), 0);
    }

    private static void shotIsNoAct() {
        GalleryRays x = new GalleryRays();
        x.setLoss(20);
        x.shoot(0, 9240, 1);
        Due.same("undo() after a shot", x.undo(), 0);
        Due.same("hits() after undo()", x.hits(), 1);
        Due.hit(x, 0, 0, 9240, THIRD, 1, 9240);
    }
}
