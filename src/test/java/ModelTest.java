/** All promises: long runs of calls on the class and on the model, whose answers must agree. */
public final class ModelTest {
    private static final int RUNS = 6000;
    private static final int CALLS = 512;
    private static final int[] EXTREMES = {Integer.MIN_VALUE, Integer.MAX_VALUE, -1, 0, 1, 12, 13,
        27719, 27720, 27721, 13859, 13860, -13859, -13860, 1000, 1001, 1000000, 1000001, 65536};
    private static final int[] ROUND_STEPS = {9240, 6930, 5544, 4620, 11088, 3960, 3080, 2772,
        2520, 13860 - 1, 12320, 1, 2, 5, 8316, 10395, 7700};
    private static final String TEXT_SIGNS = "0123456789:;+,-soakbcktilphear ~A";
    private static final String[] WORDS = {"soak", "back", "tilt", "split", "hear"};

    private static long seed = 20270;
    private static GalleryRays x;
    private static Model m;
    private static int calls;

    public static void main(String[] args) {
        for (int run = 0; run < RUNS && !Due.anyWrong(); run++) {
            x = new GalleryRays();
            m = new Model();
            calls = 0;
            int shape = random(4);
            while (calls < CALLS && !Due.anyWrong()) {
                step(shape);
            }
        }
        Due.finish();
    }

    /** A number from 0 to below - 1, the same ones in every run of the test. */
    private static int random(int below) {
        seed = seed * 6364136223846793005L + 1442695040888963407L;
        return (int) ((seed >>> 33) % below);
    }

    private static int between(int least, int most) {
        return least + random(most - least + 1);
    }

    /** Mostly the number itself, now and then one that is likely not allowed. */
    private static int perhaps(int number) {
        return random(40) == 0 ? EXTREMES[random(EXTREMES.length)] : number;
    }

    /** What later calls answer than the 512th is free. */
    private static void agree(String call, long got, long want) {
        calls++;
        if (calls <= CALLS) {
            Due.same("call " + calls + ", " + call, got, want);
        }
    }

    private static void step(int shape) {
        int choice = random(100);
        if (choice < 12) {
            add(shape);
        } else if (choice < 17) {
            text();
        } else if (choice < 30) {
            shoot(shape);
        } else if (choice < 36) {
            settings();
        } else if (choice < 45) {
            chords();
        } else if (choice < 50) {
            agree("undo()", x.undo(), m.undo());
        } else if (choice < 55) {
            int part = perhaps(between(0, 11));
            agree("remove(" + part + ")", x.remove(part), m.remove(part));
        } else if (choice < 60) {
            int c = perhaps(between(31, 127));
            agree("type(" + c + ")", x.type(c), m.type(c));
        } else {
            tell();
        }
    }

    private static int someStep() {
        int step = random(3) == 0 ? ROUND_STEPS[random(ROUND_STEPS.length)] : between(1, 13859);
        return random(2) == 0 ? step : -step;
    }

    private static int someBy(int kind) {
        if (kind == 0) {
            return random(3) == 0 ? between(0, 1000) : between(0, 60);
        }
        if (kind == 2 || kind == 3) {
            return random(2) == 0 ? between(-9999, 9999) : between(-30, 30);
        }
        return 0;
    }

    private static int someMany(int shape) {
        return shape == 0 ? between(1, 27720) : random(5) == 0 ? 27720 : between(1, 6000);
    }

    private static int somePlace() {
        return random(3) == 0 ? 1155 * random(24) : between(0, 27719);
    }

    private static int someKind(int shape) {
        return shape == 2 ? 3 : random(5);
    }

    private static void add(int shape) {
        int kind = perhaps(someKind(shape));
        int first = perhaps(somePlace());
        int many = perhaps(someMany(shape));
        int k = perhaps(someBy(kind));
        agree("add(" + kind + ", " + first + ", " + many + ", " + k + ")",
                x.add(kind, first, many, k), m.add(kind, first, many, k));
    }

    private static void settings() {
        if (random(2) == 0) {
            int loss = perhaps(random(2) == 0 ? between(0, 20) : between(0, 999));
            agree("setLoss(" + loss + ")", x.setLoss(loss), m.setLoss(loss));
        } else {
            int most = random(2) == 0 ? 100 : 1000000;
            int threshold = perhaps(between(1, most));
            agree("setThreshold(" + threshold + ")",
                    x.setThreshold(threshold), m.setThreshold(threshold));
        }
    }

    private static void text() {
        if (random(4) != 0) {
            agree("clear()", x.clear(), m.clear());
        }
        StringBuilder text = new StringBuilder();
        int parts = between(1, 4);
        for (int i = 0; i < parts; i++) {
            text.append(i == 0 ? "" : ";").append(somePart());
        }
        int spoils = random(3) == 0 ? 0 : random(3);
        for (int i = 0; i < spoils; i++) {
            spoil(text);
        }
        for (int i = 0; i < text.length(); i++) {
            agree("type(" + (int) text.charAt(i) + ")",
                    x.type(text.charAt(i)), m.type(text.charAt(i)));
        }
        agree("read() of " + text, x.read(), m.read());
        agree("parts() after " + text, x.parts(), m.parts());
    }

    private static String somePart() {
        int kind = random(5);
        int first = random(10) == 0 ? between(27718, 27722) : somePlace();
        int many = random(10) == 0 ? between(27718, 27722) : between(0, 3000);
        StringBuilder part = new StringBuilder(WORDS[kind]);
        part.append(':').append(first).append('+').append(many);
        if (kind != 1 && kind != 4) {
            part.append(',').append(random(10) == 0 ? 990 + random(20) : someBy(kind));
        }
        return part.toString();
    }

    private static void spoil(StringBuilder text) {
        char sign = TEXT_SIGNS.charAt(random(TEXT_SIGNS.length()));
        int at = random(text.length());
        int way = random(4);
        if (way == 0) {
            text.insert(at, sign);
        } else if (way == 1) {
            text.setCharAt(at, sign);
        } else if (way == 2 && text.length() > 1) {
            text.deleteCharAt(at);
        } else {
            text.setLength(at + 1);
        }
    }

    private static void shoot(int shape) {
        int place = perhaps(somePlace());
        int step = perhaps(someStep());
        int energy = perhaps(random(3) == 0 ? between(1, 5000) : between(1, 1000000));
        String call = "shoot(" + place + ", " + step + ", " + energy + ")";
        agree(call, x.shoot(place, step, energy), m.shoot(place, step, energy));
        if (random(4) == 0) {
            agree("fingerprint() after " + call, x.fingerprint(), m.fingerprint());
        }
        agree("mean() after " + call, Float.floatToIntBits(x.mean()),
                Float.floatToIntBits(m.mean()));
        if (random(8) == 0) {
            agree("gap() after " + call, x.gap(), m.gap());
        }
    }

    private static void chords() {
        int step = perhaps(someStep());
        agree("time(" + step + ")", x.time(step), m.time(step));
        agree("caustic(" + step + ")", x.caustic(step), m.caustic(step));
        if (random(10) == 0) {
            agree("order(" + step + ")", x.order(step), m.order(step));
            agree("turns(" + step + ")", x.turns(step), m.turns(step));
            int from = perhaps(somePlace());
            int to = perhaps(somePlace());
            int count = perhaps(between(0, 51));
            agree("aim(" + from + ", " + to + ", " + count + ")",
                    x.aim(from, to, count), m.aim(from, to, count));
        }
        if (random(100) == 0) {
            int radius = perhaps(between(0, 1000000));
            agree("widest(" + radius + ")", x.widest(radius), m.widest(radius));
        }
    }

    private static void tell() {
        int part = perhaps(between(0, 12));
        int what = perhaps(between(0, 5));
        agree("part(" + part + ", " + what + ")", x.part(part, what), m.part(part, what));
        agree("heard(" + part + ", " + what + ")", x.heard(part, what), m.heard(part, what));
        int i = perhaps(between(0, 600));
        agree("hit(" + i + ", " + what + ")", x.hit(i, what), m.hit(i, what));
        agree("echo(" + i + ")", x.echo(i), m.echo(i));
        agree("echo(" + i / 20 + ")", x.echo(i / 20), m.echo(i / 20));
        agree("parts()", x.parts(), m.parts());
        agree("hits()", x.hits(), m.hits());
        agree("rays()", x.rays(), m.rays());
        agree("coverage()", x.coverage(), m.coverage());
        if (random(4) == 0) {
            int chords = perhaps(between(0, 200));
            agree("crossings(" + chords + ")", x.crossings(chords), m.crossings(chords));
        }
    }
}
