import java.math.BigInteger;

/** Promises 21 to 26: chords, their circles and their aims. */
public final class ChordTest {
    private static final int N = 27720;
    private static final int BAD = GalleryRays.BAD;
    private static final int NONE = GalleryRays.NONE;
    private static final int[] NO_STEPS = {0, 13860, -13860, 27720, -27720, 1 << 16,
        Integer.MAX_VALUE, Integer.MIN_VALUE};

    private static final GalleryRays X = new GalleryRays();

    public static void main(String[] args) {
        refuseNoSteps();
        knownChords();
        everyStep();
        aims();
        aimsEverywhere();
        aimRefuses();
        widest();
        Due.finish();
    }

    private static void refuseNoSteps() {
        for (int step : NO_STEPS) {
            Due.same("time(" + step + ")", X.time(step), BAD);
            Due.same("caustic(" + step + ")", X.caustic(step), BAD);
            Due.same("order(" + step + ")", X.order(step), BAD);
            Due.same("turns(" + step + ")", X.turns(step), BAD);
        }
    }

    private static void knownChords() {
        Due.same("time(13859)", X.time(13859), 1999999);
        Due.same("time(-9240)", X.time(-9240), 1729729);
        Due.same("caustic(1)", X.caustic(1), 999999);
        Due.same("caustic(13859)", X.caustic(13859), 115);
        Due.same("caustic(-13859)", X.caustic(-13859), 115);
        Due.same("order(1)", X.order(1), 27720);
        Due.same("order(-13859)", X.order(-13859), 27720);
        Due.same("turns(-13859)", X.turns(-13859), 13859);
        Due.same("order(9240)", X.order(9240), 3);
        Due.same("turns(9240)", X.turns(9240), 1);
        Due.same("order(11088)", X.order(11088), 5);
        Due.same("turns(-11088)", X.turns(-11088), 2);
    }

    /** Every step against the words of the document, in numbers of any length. */
    private static void everyStep() {
        for (int a = 1; a < N / 2; a++) {
            long time = sine(2000000, a);
            long radius = sine(1000000, N / 2 - a);
            int shared = BigInteger.valueOf(N).gcd(BigInteger.valueOf(a)).intValue();
            for (int step = -a; step <= a; step += 2 * a) {
                Due.same("time(" + step + ")", X.time(step), time);
                Due.same("caustic(" + step + ")", X.caustic(step), radius);
                Due.same("order(" + step + ")", X.order(step), N / shared);
                Due.same("turns(" + step + ")", X.turns(step), a / shared);
            }
        }
    }

    private static long sine(long scale, long a) {
        BigInteger n = BigInteger.valueOf(N);
        BigInteger bow = BigInteger.valueOf(a).multiply(BigInteger.valueOf(N - a));
        BigInteger above = BigInteger.valueOf(scale * 16).multiply(bow);
        BigInteger below = n.multiply(n).multiply(BigInteger.valueOf(5))
                .subtract(bow.multiply(BigInteger.valueOf(4)));
        return above.divide(below).longValueExact();
    }

    private static void aims() {
        Due.same("aim(0, 9240, 1)", X.aim(0, 9240, 1), 9240);
        Due.same("aim(9240, 0, 1)", X.aim(9240, 0, 1), -9240);
        Due.same("aim(0, 27719, 1)", X.aim(0, 27719, 1), -1);
        Due.same("aim(27719, 0, 1)", X.aim(27719, 0, 1), 1);
        Due.same("aim(0, 13859, 1)", X.aim(0, 13859, 1), 13859);
        Due.same("aim(0, 13861, 1)", X.aim(0, 13861, 1), -13859);
        Due.same("aim(0, 13860, 1)", X.aim(0, 13860, 1), NONE);
        Due.same("aim(7, 7, 1)", X.aim(7, 7, 1), NONE);
        Due.same("aim(7, 7, 2)", X.aim(7, 7, 2), NONE);
        Due.same("aim(7, 7, 3)", X.aim(7, 7, 3), 9240);
        Due.same("aim(7, 7, 4)", X.aim(7, 7, 4), 6930);
        Due.same("aim(7, 7, 50), ten chords five times", X.aim(7, 7, 50), 2772);
        Due.same("aim(0, 13860, 2), of two the positive", X.aim(0, 13860, 2), 6930);
        Due.same("aim(0, 13862, 2)", X.aim(0, 13862, 2), -6929);
        Due.same("aim(0, 1, 2)", X.aim(0, 1, 2), NONE);
    }

    private static void aimsEverywhere() {
        int from = 0;
        int to = 1;
        for (int i = 0; i < 3000; i++) {
            from = (from * 37 + 11) % N;
            to = (to * 41 + 3 * i) % N;
            int chords = i % 50 + 1;
            Due.same("aim(" + from + ", " + to + ", " + chords + ")",
                    X.aim(from, to, chords), search(from, to, chords));
        }
        for (int chords = 1; chords <= 50; chords++) {
            for (int to2 = 0; to2 < N; to2 += 1155) {
                Due.same("aim(0, " + to2 + ", " + chords + ")",
                        X.aim(0, to2, chords), search(0, to2, chords));
            }
        }
    }

    private static int search(int from, int to, int chords) {
        for (int a = 1; a < N / 2; a++) {
            if ((from + chords * a - to) % N == 0) {
                return a;
            }
            if ((from - chords * a - to) % N == 0) {
                return -a;
            }
        }
        return NONE;
    }

    private static void aimRefuses() {
        int[][] bad = {{-1, 0, 3}, {N, 0, 3}, {0, -1, 3}, {0, N, 3}, {0, 0, 0}, {0, 0, -1},
            {0, 0, 51}, {Integer.MIN_VALUE, 0, 3}, {0, Integer.MAX_VALUE, 3},
            {0, 0, Integer.MIN_VALUE}, {0, 0, Integer.MAX_VALUE}};
        for (int[] a : bad) {
            Due.same("aim(" + a[0] + ", " + a[1] + ", " + a[2] + ")",
                    X.aim(a[0], a[1], a[2]), BAD);
        }
    }

    private static void widest() {
        int[] radii = {0, 1, 114, 115, 116, 500000, 707107, 900000, 999998, 999999, 1000000};
        for (int radius : radii) {
            Due.same("widest(" + radius + ")", X.widest(radius), searchWidest(radius));
        }
        Due.same("widest(0)", X.widest(0), 1);
        Due.same("widest(999999)", X.widest(999999), 1);
        Due.same("widest(1000000)", X.widest(1000000), NONE);
        int[] bad = {-1, 1000001, Integer.MIN_VALUE, Integer.MAX_VALUE};
        for (int radius : bad) {
            Due.same("widest(" + radius + ")", X.widest(radius), BAD);
        }
    }

    private static int searchWidest(int radius) {
        int best = NONE;
        int bestOrder = 0;
        for (int a = 1; a < N / 2; a++) {
            int order = N / BigInteger.valueOf(N).gcd(BigInteger.valueOf(a)).intValue();
            if (sine(1000000, N / 2 - a) >= radius && order > bestOrder) {
                best = a;
                bestOrder = order;
            }
        }
        return best;
    }
}
