import java.math.BigInteger;

/** Promises 21 to 26: chords, their circles and their aims. */
public final class ChordTest {
    private static final int N = 27720;
    private static final int BAD = GalleryRays.BAD;
    private static final int NONE = GalleryRays.NONE;
    private static final int[] NO_STEPS = {0, 13860, -13860, 27720, -27720, 1 << 16,
        Integer.MAX_VALUE, Integer.MIN_VALUE};

    private static final int MOST_CALLS = 512;

    private static GalleryRays asked = new GalleryRays();
    private static int calls = 0;

    public static void main(String[] args) {
        refuseNoSteps();
        knownChords();
        everyStep();
        aims();
        aimsEverywhere();
        aimRefuses();
        widest();
        Due.finish();
    }

    /** The object to ask: a new one after 512 calls, for which one is made. */
    private static GalleryRays x() {
        if (calls == MOST_CALLS) {
            asked = new GalleryRays();
            calls = 0;
        }
        calls++;
        return asked;
    }

    private static void refuseNoSteps() {
        for (int step : NO_STEPS) {
            Due.same("time(" + step + ")", x().time(step), BAD);
            Due.same("caustic(" + step + ")", x().caustic(step), BAD);
            Due.same("order(" + step + ")", x().order(step), BAD);
            Due.same("turns(" + step + ")", x().turns(step), BAD);
        }
    }

    private static void knownChords() {
        Due.same("time(13859)", x().time(13859), 1999999);
        Due.same("time(-9240)", x().time(-9240), 1729729);
        Due.same("caustic(1)", x().caustic(1), 999999);
        Due.same("caustic(13859)", x().caustic(13859), 115);
        Due.same("caustic(-13859)", x().caustic(-13859), 115);
        Due.same("order(1)", x().order(1), 27720);
        Due.same("order(-13859)", x().order(-13859), 27720);
        Due.same("turns(-13859)", x().turns(-13859), 13859);
        Due.same("order(9240)", x().order(9240), 3);
        Due.same("turns(9240)", x().turns(9240), 1);
        Due.same("order(11088)", x().order(11088), 5);
        Due.same("turns(-11088)", x().turns(-11088), 2);
    }

    /** Every step against the words of the document, in numbers of any length. */
    private static void everyStep() {
        for (int a = 1; a < N / 2; a++) {
            long time = sine(2000000, a);
            long radius = sine(1000000, N / 2 - a);
            int shared = BigInteger.valueOf(N).gcd(BigInteger.valueOf(a)).intValue();
            for (int step = -a; step <= a; step += 2 * a) {
                Due.same("time(" + step + ")", x().time(step), time);
                Due.same("caustic(" + step + ")", x().caustic(step), radius);
                Due.same("order(" + step + ")", x().order(step), N / shared);
                Due.same("turns(" + step + ")", x().turns(step), a / shared);
            }
        }
    }

    private static long sine(long scale, long a) {
        BigInteger n = BigInteger.valueOf(N);
        BigInteger bow = BigInteger.valueOf(a).multiply(BigInteger.valueOf(N - a));
        BigInteger above = BigInteger.valueOf(scale * 16).multiply(bow);
        BigInteger below = n.multiply(n).multiply(BigInteger.valueOf(5))
                .subtract(bow.multiply(BigInteger.valueOf(4)));
        return above.divide(below).longValueExact();
    }

    private static void aims() {
        Due.same("aim(0, 9240, 1)", x().aim(0, 9240, 1), 9240);
        Due.same("aim(9240, 0, 1)", x().aim(9240, 0, 1), -9240);
        Due.same("aim(0, 27719, 1)", x().aim(0, 27719, 1), -1);
        Due.same("aim(27719, 0, 1)", x().aim(27719, 0, 1), 1);
        Due.same("aim(0, 13859, 1)", x().aim(0, 13859, 1), 13859);
        Due.same("aim(0, 13861, 1)", x().aim(0, 13861, 1), -13859);
        Due.same("aim(0, 13860, 1)", x().aim(0, 13860, 1), NONE);
        Due.same("aim(7, 7, 1)", x().aim(7, 7, 1), NONE);
        Due.same("aim(7, 7, 2)", x().aim(7, 7, 2), NONE);
        Due.same("aim(7, 7, 3)", x().aim(7, 7, 3), 9240);
        Due.same("aim(7, 7, 4)", x().aim(7, 7, 4), 6930);
        Due.same("aim(7, 7, 50), ten chords five times", x().aim(7, 7, 50), 2772);
        Due.same("aim(0, 13860, 2), of two the positive", x().aim(0, 13860, 2), 6930);
        Due.same("aim(0, 13862, 2)", x().aim(0, 13862, 2), -6929);
        Due.same("aim(0, 1, 2)", x().aim(0, 1, 2), NONE);
    }

    private static void aimsEverywhere() {
        int from = 0;
        int to = 1;
        for (int i = 0; i < 3000; i++) {
            from = (from * 37 + 11) % N;
            to = (to * 41 + 3 * i) % N;
            int chords = i % 50 + 1;
            Due.same("aim(" + from + ", " + to + ", " + chords + ")",
                    x().aim(from, to, chords), search(from, to, chords));
        }
        for (int chords = 1; chords <= 50; chords++) {
            for (int to2 = 0; to2 < N; to2 += 1155) {
                Due.same("aim(0, " + to2 + ", " + chords + ")",
                        x().aim(0, to2, chords), search(0, to2, chords));
            }
        }
    }

    private static int search(int from, int to, int chords) {
        for (int a = 1; a < N / 2; a++) {
            if ((from + chords * a - to) % N == 0) {
                return a;
            }
            if ((from - chords * a - to) % N == 0) {
                return -a;
            }
        }
        return NONE;
    }

    private static void aimRefuses() {
        int[][] bad = {{-1, 0, 3}, {N, 0, 3}, {0, -1, 3}, {0, N, 3}, {0, 0, 0}, {0, 0, -1},
            {0, 0, 51}, {Integer.MIN_VALUE, 0, 3}, {0, Integer.MAX_VALUE, 3},
            {0, 0, Integer.MIN_VALUE}, {0, 0, Integer.MAX_VALUE}};
        for (int[] a : bad) {
            Due.same("aim(" + a[0] + ", " + a[1] + ", " + a[2] + ")",
                    x().aim(a[0], a[1], a[2]), BAD);
        }
    }

    private static void widest() {
        int[] radii = {0, 1, 114, 115, 116, 500000, 707107, 900000, 999998, 999999, 1000000};
        for (int radius : radii) {
            Due.same("widest(" + radius + ")", x().widest(radius), searchWidest(radius));
        }
        Due.same("widest(0)", x().widest(0), 1);
        Due.same("widest(999999)", x().widest(999999), 1);
        Due.same("widest(1000000)", x().widest(1000000), NONE);
        int[] bad = {-1, 1000001, Integer.MIN_VALUE, Integer.MAX_VALUE};
        for (int radius : bad) {
            Due.same("widest(" + radius + ")", x().widest(radius), BAD);
        }
    }

    private static int searchWidest(int radius) {
        int best = NONE;
        int bestOrder = 0;
        for (int a = 1; a < N / 2; a++) {
            int order = N / BigInteger.valueOf(N).gcd(BigInteger.valueOf(a)).intValue();
            if (sine(1000000, N / 2 - a) >= radius && order > bestOrder) {
                best = a;
                bestOrder = order;
            }
        }
        return best;
    }
}
