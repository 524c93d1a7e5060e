import java.util.ArrayList;
import java.util.List;
import java.util.function.Consumer;
import java.util.function.ToLongFunction;

/**
 * The head ERRORS: "A call that returns an error changes nothing. If several errors apply to a
 * call, the one listed first is returned." Each call that is refused is made on walls of several
 * kinds, each beside a twin that is not asked; so is each call that only tells.
 */
public final class RefusalTest {
    private static final int N = 27720;
    private static final int BAD = GalleryRays.BAD;
    private static final int FULL = GalleryRays.FULL;
    private static final int NONE = GalleryRays.NONE;
    private static final int LEAST = Integer.MIN_VALUE;
    private static final int MOST = Integer.MAX_VALUE;
    private static final int HEAR = 4;

    private record Asked(String call, ToLongFunction<GalleryRays> of, long due) {
    }

    private record Past(String name, Consumer<GalleryRays> life) {
    }

    private static final List<Past> PASTS = List.of(
            new Past("a new wall", x -> {
            }),
            new Past("a used wall", RefusalTest::useIt),
            new Past("a full wall", RefusalTest::fillIt),
            new Past("an undone wall", RefusalTest::undoIt));

    public static void main(String[] args) {
        refusedOnAnyWall();
        fullAddChangesNothing();
        fullTypeChangesNothing();
        fullReadChangesNothing();
        textErrorsChangeNothing();
        badComesBeforeFull();
        badComesBeforeNone();
        tellingChangesNothing();
        Due.finish();
    }

    /** Parts of each kind, three states left, a text in the buffer, a shot of several rays. */
    private static void useIt(GalleryRays x) {
        x.add(0, 100, 50, 100);
        x.add(1, 5000, 10, 0);
        x.add(2, 9240, 500, 60);
        x.add(3, 0, 13000, -7);
        x.add(HEAR, 400, N - 500, 0);
        x.setLoss(20);
        x.setThreshold(300);
        x.shoot(0, 9240, 50000);
        x.setLoss(30);
        x.setLoss(40);
        x.undo();
        x.undo();
        Due.type(x, "hear:7+7;tilt:5+6,-7");
    }

    /** 12 parts, 60 characters that make three parts, five states, 600 hits of 100 rays. */
    private static void fillIt(GalleryRays x) {
        for (int i = 0; i < 12; i++) {
            x.add(i % 3 == 0 ? 3 : HEAR, 2000 * i, 9000, i % 3 == 0 ? i : 0);
        }
        x.setThreshold(1);
        x.setLoss(0);
        x.shoot(0, 11088, 1000000);
        Due.type(x, "split:00001+00002,-00003;soak:00004+00005,00006;hear:11+1234");
    }

    /** All is undone and emptied again, but what was shot is still told. */
    private static void undoIt(GalleryRays x) {
        useIt(x);
        x.clear();
        for (int i = 0; i < 5; i++) {
            x.undo();
        }
    }

    // ---- calls that are refused in any state

    private static List<Asked> refusals() {
        List<Asked> asked = new ArrayList<>();
        badAdds(asked);
        badNumbers(asked);
        badShots(asked);
        badSteps(asked);
        badAims(asked);
        return asked;
    }

    private static void badAdds(List<Asked> asked) {
        int[][] bad = {{-1, 0, 1, 0}, {5, 0, 1, 0}, {LEAST, 0, 1, 0}, {MOST, 0, 1, 0},
            {HEAR, -1, 1, 0}, {HEAR, N, 1, 0}, {HEAR, LEAST, 1, 0}, {HEAR, MOST, 1, 0},
            {HEAR, 0, 0, 0}, {HEAR, 0, -1, 0}, {HEAR, 0, N + 1, 0}, {HEAR, 0, LEAST, 0},
            {HEAR, 0, MOST, 0}, {0, 0, 1, -1}, {0, 0, 1, 1001}, {1, 0, 1, -1}, {1, 0, 1, 1},
            {2, 0, 1, -10000}, {2, 0, 1, 10000}, {3, 0, 1, -10000}, {3, 0, 1, 10000},
            {HEAR, 0, 1, -1}, {HEAR, 0, 1, 1}, {0, 0, 1, LEAST}, {2, 0, 1, LEAST},
            {3, 0, 1, MOST}, {-1, -1, 0, 1}};
        for (int[] b : bad) {
            asked.add(new Asked("add(" + b[0] + ", " + b[1] + ", " + b[2] + ", " + b[3] + ")",
                    x -> x.add(b[0], b[1], b[2], b[3]), BAD));
        }
    }

    private static void badNumbers(List<Asked> asked) {
        for (int i : new int[] {-1, 12, 13, LEAST, MOST}) {
            asked.add(new Asked("remove(" + i + ")", x -> x.remove(i), BAD));
            asked.add(new Asked("part(" + i + ", 0)", x -> x.part(i, 0), BAD));
            asked.add(new Asked("heard(" + i + ", 0)", x -> x.heard(i, 0), BAD));
        }
        asked.add(new Asked("remove of the next part", x -> x.remove(x.parts()), BAD));
        asked.add(new Asked("part of the next part", x -> x.part(x.parts(), 3), BAD));
        asked.add(new Asked("hit of the next hit", x -> x.hit(x.hits(), 0), BAD));
        for (int i : new int[] {-1, 600, LEAST, MOST}) {
            asked.add(new Asked("hit(" + i + ", 0)", x -> x.hit(i, 0), BAD));
        }
        for (int loss : new int[] {-1, 1000, LEAST, MOST}) {
            asked.add(new Asked("setLoss(" + loss + ")", x -> x.setLoss(loss), BAD));
        }
        for (int what : new int[] {-1, 5, LEAST, MOST}) {
            asked.add(new Asked("part(0, " + what + ")", x -> x.part(0, what), BAD));
            asked.add(new Asked("hit(0, " + what + ")", x -> x.hit(0, what), BAD));
            asked.add(new Asked("heard(0, " + what + ")", x -> x.heard(0, what), BAD));
        }
        asked.add(new Asked("part(0, 4)", x -> x.part(0, 4), BAD));
        asked.add(new Asked("heard(0, 4)", x -> x.heard(0, 4), BAD));
        for (int t : new int[] {0, -1, 1000001, LEAST, MOST}) {
            asked.add(new Asked("setThreshold(" + t + ")", x -> x.setThreshold(t), BAD));
        }
        for (int c : new int[] {31, 127, 0, -1, 65536 + 65, LEAST, MOST}) {
            asked.add(new Asked("type(" + c + ")", x -> x.type(c), BAD));
        }
        for (int i : new int[] {-1, LEAST}) {
            asked.add(new Asked("echo(" + i + ")", x -> x.echo(i), BAD));
        }
        for (int i : new int[] {600, MOST}) {
            asked.add(new Asked("echo(" + i + ")", x -> x.echo(i), NONE));
        }
        for (int chords : new int[] {-1, 201, LEAST, MOST}) {
            asked.add(new Asked("crossings(" + chords + ")", x -> x.crossings(chords), BAD));
        }
    }

    private static void badShots(List<Asked> asked) {
        int[][] bad = {{-1, 1, 1}, {N, 1, 1}, {LEAST, 1, 1}, {MOST, 1, 1}, {0, 0, 1},
            {0, -13860, 1}, {0, 13860, 1}, {0, LEAST, 1}, {0, MOST, 1}, {0, 1, 0}, {0, 1, -1},
            {0, 1, 1000001}, {0, 1, LEAST}, {0, 1, MOST}, {-1, 0, 0}};
        for (int[] b : bad) {
            asked.add(new Asked("shoot(" + b[0] + ", " + b[1] + ", " + b[2] + ")",
                    x -> x.shoot(b[0], b[1], b[2]), BAD));
        }
    }

    private static void badSteps(List<Asked> asked) {
        for (int step : new int[] {0, -13860, 13860, N, -N, LEAST, MOST}) {
            asked.add(new Asked("time(" + step + ")", x -> x.time(step), BAD));
            asked.add(new Asked("caustic(" + step + ")", x -> x.caustic(step), BAD));
            asked.add(new Asked("order(" + step + ")", x -> x.order(step), BAD));
            asked.add(new Asked("turns(" + step + ")", x -> x.turns(step), BAD));
        }
    }

    private static void badAims(List<Asked> asked) {
        int[][] bad = {{-1, 0, 3}, {N, 0, 3}, {LEAST, 0, 3}, {MOST, 0, 3}, {0, -1, 3}, {0, N, 3},
            {0, LEAST, 3}, {0, MOST, 3}, {0, 0, 0}, {0, 0, 51}, {0, 0, LEAST}, {0, 0, MOST}};
        for (int[] b : bad) {
            asked.add(new Asked("aim(" + b[0] + ", " + b[1] + ", " + b[2] + ")",
                    x -> x.aim(b[0], b[1], b[2]), BAD));
        }
        asked.add(new Asked("aim(0, 1, 2)", x -> x.aim(0, 1, 2), NONE));
        asked.add(new Asked("aim(0, 13860, 1)", x -> x.aim(0, 13860, 1), NONE));
        for (int radius : new int[] {-1, 1000001, LEAST, MOST}) {
            asked.add(new Asked("widest(" + radius + ")", x -> x.widest(radius), BAD));
        }
        asked.add(new Asked("widest(1000000)", x -> x.widest(1000000), NONE));
    }

    /** "A call that returns an error changes nothing." */
    private static void refusedOnAnyWall() {
        for (Past past : PASTS) {
            for (Asked asked : refusals()) {
                Twins.unchanged(asked.call() + " of " + past.name(),
                        past.life(), asked.of(), asked.due());
            }
        }
    }

    // ---- calls that are refused in some states

    /** FULL of add: 12 parts. */
    private static void fullAddChangesNothing() {
        Twins.unchanged("add to 12 parts", RefusalTest::fillIt, x -> x.add(HEAR, 0, 1, 0), FULL);
    }

    /** FULL of type: 60 characters, the last of which stays as it is. */
    private static void fullTypeChangesNothing() {
        Twins.unchanged("type to 60 characters", RefusalTest::fillIt, x -> x.type('x'), FULL);
        GalleryRays x = new GalleryRays();
        Due.type(x, "split:00001+00002,-00003;soak:00004+00005,00006;hear:11+1234");
        Due.same("type to 60 characters", x.type('x'), FULL);
        Due.same("read() of the 60 characters", x.read(), 3);
        Due.part(x, 2, HEAR, 11, 1234, 0);
    }

    /** FULL of read: the text would make 13 parts or more. */
    private static void fullReadChangesNothing() {
        Twins.unchanged("read to 12 parts", RefusalTest::fillIt, GalleryRays::read, FULL);
        for (int parts = 10; parts <= 12; parts++) {
            int before = parts;
            Twins.unchanged("read of 3 to " + parts + " parts", x -> {
                for (int i = 0; i < before; i++) {
                    x.add(HEAR, i, 1, 0);
                }
                Due.type(x, "hear:1+1;hear:2+2;hear:3+3");
            }, GalleryRays::read, FULL);
        }
    }

    /** -200 minus the error place, of form and of range. */
    private static void textErrorsChangeNothing() {
        Object[][] due = {{"", 0}, {"hear:1+1;", 9}, {"hear:1+1;back:27720+1", 14},
            {"hear:1+1;soak:1+1,1001", 18}, {"hear:1+1;tilt:1+1,-10000", 19}, {"hear:1+1;spl", 12},
            {"hear:1+1;hear:123456", 19}, {"hear:0+1;hear:1+0", 16}};
        for (Object[] d : due) {
            String text = (String) d[0];
            int place = (Integer) d[1];
            Twins.unchanged("read of \"" + text + "\"", x -> {
                useIt(x);
                x.clear();
                Due.type(x, text);
            }, GalleryRays::read, -200 - place);
        }
    }

    // ---- "If several errors apply to a call, the one listed first is returned."

    private static void badComesBeforeFull() {
        Twins.unchanged("bad add to 12 parts", RefusalTest::fillIt, x -> x.add(5, 0, 1, 0), BAD);
        Twins.unchanged("bad k to 12 parts", RefusalTest::fillIt, x -> x.add(HEAR, 0, 1, 1), BAD);
        Twins.unchanged("bad type to 60 characters", RefusalTest::fillIt, x -> x.type(127), BAD);
        Twins.unchanged("read of a bad text to 12 parts", x -> {
            fillIt(x);
            x.clear();
            Due.type(x, "hear:1+0");
        }, GalleryRays::read, -207);
    }

    private static void badComesBeforeNone() {
        GalleryRays x = new GalleryRays();
        Due.same("echo(-1) without echoes", x.echo(-1), BAD);
        Due.same("echo(0) without echoes", x.echo(0), NONE);
        Due.same("aim(0, 0, 0)", x.aim(0, 0, 0), BAD);
        Due.same("aim(0, 27720, 1)", x.aim(0, N, 1), BAD);
        Due.same("aim(0, 0, 1)", x.aim(0, 0, 1), NONE);
        Due.same("widest(1000001)", x.widest(1000001), BAD);
        Due.same("widest(1000000)", x.widest(1000000), NONE);
        Due.same("heard(12, 2) without a shot", x.heard(12, 2), BAD);
        Due.same("heard(11, 2) without a shot", x.heard(11, 2), NONE);
    }

    // ---- calls that only tell

    /** "Nothing is promised beyond the answers and state changes described above." */
    private static void tellingChangesNothing() {
        List<Asked> asked = new ArrayList<>();
        asked.add(new Asked("time(5)", x -> x.time(5), 1154));
        asked.add(new Asked("caustic(9240)", x -> x.caustic(9240), 500000));
        asked.add(new Asked("order(9240)", x -> x.order(9240), 3));
        asked.add(new Asked("turns(11088)", x -> x.turns(11088), 2));
        asked.add(new Asked("aim(0, 9240, 1)", x -> x.aim(0, 9240, 1), 9240));
        asked.add(new Asked("widest(0)", x -> x.widest(0), 1));
        asked.add(new Asked("crossings(0)", x -> x.crossings(0), 0));
        asked.add(new Asked("all that tells twice", RefusalTest::changesByTelling, 0));
        for (Past past : PASTS) {
            for (Asked a : asked) {
                Twins.unchanged(a.call() + " of " + past.name(), past.life(), a.of(), a.due());
            }
        }
    }

    /** How many answers are others when they are asked for again. */
    private static long changesByTelling(GalleryRays x) {
        return told(x) == told(x) ? 0 : 1;
    }

    private static long told(GalleryRays x) {
        long told = x.parts() + 31L * x.hits() + 37L * x.rays() + 41L * x.coverage();
        told = 43 * told + x.gap() + 47L * x.crossings(200) + (long) (8 * x.mean());
        for (int i = 0; i < 12; i++) {
            told = 53 * told + x.echo(i) + x.part(i, i % 4) + x.hit(i, i % 5) + x.heard(i, i % 4);
        }
        return told + x.fingerprint();
    }
}
