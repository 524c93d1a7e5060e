import java.math.BigInteger;
import java.util.ArrayDeque;
import java.util.ArrayList;
import java.util.Deque;
import java.util.HashMap;
import java.util.HashSet;
import java.util.List;
import java.util.Map;
import java.util.Set;
import java.util.regex.Matcher;
import java.util.regex.Pattern;

/** The document once more, in other words: the plainest way to each answer, whatever it costs. */
final class Model {
    static final int N = 27720;
    static final int BAD = -100001;
    static final int FULL = -100003;
    static final int NONE = -100009;

    private static final String NUMBER = "([0-9]{1,5})";
    private static final String SIGNED = "-?" + NUMBER;
    private static final String PLACES = ":" + NUMBER + "\\+" + NUMBER;
    private static final String PART = "(?:soak" + PLACES + "," + NUMBER
            + "|(?:tilt|split)" + PLACES + "," + SIGNED + "|(?:back|hear)" + PLACES + ")";
    private static final Pattern TEXT = Pattern.compile(PART + "(?:;" + PART + ")*");
    private static final Pattern ANY_PART =
            Pattern.compile("([a-z]+):([0-9]+)\\+([0-9]+)(?:,(-?)([0-9]+))?");
    private static final List<String> WORDS = List.of("soak", "back", "tilt", "split", "hear");

    record Part(int kind, int first, int many, int k) {
        boolean holds(int place) {
            return place >= first && place < first + many
                    || place + N >= first && place + N < first + many;
        }
    }

    record State(List<Part> parts, int loss, int threshold) {
    }

    record Hit(int ray, int place, long time, int energy, int step, boolean heard) {
        long number(int what) {
            return new long[] {ray, place, time, energy, step}[what];
        }
    }

    static final class Ray {
        int place;
        int step;
        int energy;
        long time;
        boolean ended;
    }

    static final class Ear {
        int often;
        long sum;
        long first = NONE;
        long greatest;
    }

    private State state = new State(List.of(), 10, 1000);
    private final Deque<State> history = new ArrayDeque<>();
    private String buffer = "";
    private List<Hit> hits = new ArrayList<>();
    private List<Ray> rays = new ArrayList<>();
    private Map<Integer, Ear> ears = new HashMap<>();
    private int start;

    private void act(State next) {
        history.addLast(state);
        if (history.size() > 5) {
            history.removeFirst();
        }
        state = next;
    }

    private static boolean in(int number, int least, int most) {
        return number >= least && number <= most;
    }

    static boolean isStep(int step) {
        return step != 0 && in(step, -13859, 13859);
    }

    private static boolean allowedBy(int kind, int k) {
        switch (kind) {
            case 0:
                return in(k, 0, 1000);
            case 2:
            case 3:
                return in(k, -9999, 9999);
            default:
                return k == 0;
        }
    }

    int add(int kind, int first, int many, int k) {
        if (!in(kind, 0, 4) || !in(first, 0, N - 1) || !in(many, 1, N) || !allowedBy(kind, k)) {
            return BAD;
        }
        if (state.parts.size() == 12) {
            return FULL;
        }
        List<Part> parts = new ArrayList<>(state.parts);
        parts.add(new Part(kind, first, many, k));
        act(new State(parts, state.loss, state.threshold));
        return parts.size() - 1;
    }

    int remove(int part) {
        if (!in(part, 0, state.parts.size() - 1)) {
            return BAD;
        }
        List<Part> parts = new ArrayList<>(state.parts);
        parts.remove(part);
        act(new State(parts, state.loss, state.threshold));
        return parts.size();
    }

    int part(int part, int what) {
        if (!in(part, 0, state.parts.size() - 1) || !in(what, 0, 3)) {
            return BAD;
        }
        Part p = state.parts.get(part);
        return new int[] {p.kind, p.first, p.many, p.k}[what];
    }

    int parts() {
        return state.parts.size();
    }

    int setLoss(int loss) {
        if (!in(loss, 0, 999)) {
            return BAD;
        }
        int previous = state.loss;
        act(new State(state.parts, loss, state.threshold));
        return previous;
    }

    int setThreshold(int threshold) {
        if (!in(threshold, 1, 1000000)) {
            return BAD;
        }
        int previous = state.threshold;
        act(new State(state.parts, state.loss, threshold));
        return previous;
    }

    int type(int c) {
        if (!in(c, 32, 126)) {
            return BAD;
        }
        if (buffer.length() == 60) {
            return FULL;
        }
        buffer += (char) c;
        return buffer.length();
    }

    int clear() {
        int length = buffer.length();
        buffer = "";
        return length;
    }

    int read() {
        for (int i = 1; i <= buffer.length(); i++) {
            Matcher matcher = TEXT.matcher(buffer.substring(0, i));
            if (!matcher.matches() && !matcher.hitEnd()) {
                return -200 - (i - 1);
            }
        }
        if (!TEXT.matcher(buffer).matches()) {
            return -200 - buffer.length();
        }
        List<Part> parts = new ArrayList<>(state.parts);
        int count = 0;
        Matcher matcher = ANY_PART.matcher(buffer);
        while (matcher.find()) {
            int kind = WORDS.indexOf(matcher.group(1));
            int first = Integer.parseInt(matcher.group(2));
            int many = Integer.parseInt(matcher.group(3));
            int k = matcher.group(5) == null ? 0
                    : Integer.parseInt(matcher.group(4) + matcher.group(5));
            if (!in(first, 0, N - 1)) {
                return -200 - matcher.start(2);
            }
            if (!in(many, 1, N)) {
                return -200 - matcher.start(3);
            }
            if (!allowedBy(kind, k)) {
                return -200 - matcher.start(5);
            }
            parts.add(new Part(kind, first, many, k));
            count++;
        }
        if (parts.size() > 12) {
            return FULL;
        }
        act(new State(parts, state.loss, state.threshold));
        buffer = "";
        return count;
    }

    int shoot(int place, int step, int energy) {
        if (!in(place, 0, N - 1) || !isStep(step) || !in(energy, 1, 1000000)) {
            return BAD;
        }
        hits = new ArrayList<>();
        rays = new ArrayList<>();
        ears = new HashMap<>();
        start = place;
        born(place, step, energy, 0);
        while (hits.size() < 600) {
            Ray next = null;
            for (Ray ray : rays) {
                if (!ray.ended && (next == null || comes(ray) < comes(next))) {
                    next = ray;
                }
            }
            if (next == null) {
                break;
            }
            goOn(next);
        }
        return hits.size();
    }

    private void born(int place, int step, int energy, long time) {
        Ray ray = new Ray();
        ray.place = place;
        ray.step = step;
        ray.energy = energy;
        ray.time = time;
        rays.add(ray);
    }

    private long comes(Ray ray) {
        return ray.time + time(ray.step);
    }

    private void goOn(Ray ray) {
        ray.time = comes(ray);
        ray.place = ((ray.place + ray.step) % N + N) % N;
        int energyBefore = ray.energy;
        int stepBefore = ray.step;
        boolean heard = false;
        ray.energy = part1000(ray.energy, 1000 - state.loss);
        for (int i = 0; i < state.parts.size(); i++) {
            Part part = state.parts.get(i);
            if (!ray.ended && part.holds(ray.place)) {
                meet(ray, i, part);
                heard |= part.kind == 4;
            }
        }
        if (ray.energy < state.threshold) {
            ray.ended = true;
        }
        hits.add(new Hit(rays.indexOf(ray), ray.place, ray.time, energyBefore, stepBefore, heard));
    }

    private static int part1000(int energy, int thousandths) {
        return (int) ((long) energy * thousandths / 1000);
    }

    private void meet(Ray ray, int number, Part part) {
        int tilted = ray.step > 0 ? ray.step + part.k : ray.step - part.k;
        boolean ends = !isStep(tilted) || tilted > 0 != ray.step > 0;
        if (part.kind == 0) {
            ray.energy = part1000(ray.energy, 1000 - part.k);
        } else if (part.kind == 1) {
            ray.step = -ray.step;
        } else if (part.kind == 2 && ends) {
            ray.ended = true;
        } else if (part.kind == 2) {
            ray.step = tilted;
        } else if (part.kind == 3) {
            int half = ray.energy / 2;
            ray.energy -= half;
            if (!ends && half >= state.threshold && rays.size() < 100) {
                born(ray.place, tilted, half, ray.time);
            }
        } else {
            Ear ear = ears.computeIfAbsent(number, n -> new Ear());
            ear.often++;
            ear.sum += ray.energy;
            if (ear.often == 1) {
                ear.first = ray.time;
            }
            ear.greatest = Math.max(ear.greatest, ray.energy);
        }
    }

    int hits() {
        return hits.size();
    }

    long hit(int i, int what) {
        return in(i, 0, hits.size() - 1) && in(what, 0, 4) ? hits.get(i).number(what) : BAD;
    }

    int rays() {
        return rays.size();
    }

    private Set<Integer> places() {
        Set<Integer> places = new HashSet<>();
        for (Hit hit : hits) {
            places.add(hit.place);
        }
        return places;
    }

    int coverage() {
        return places().size();
    }

    int gap() {
        Set<Integer> places = places();
        if (places.isEmpty()) {
            return N;
        }
        int longest = 0;
        int run = 0;
        for (int i = 0; i < 2 * N; i++) {
            run = places.contains(i % N) ? 0 : run + 1;
            longest = Math.max(longest, run);
        }
        return longest;
    }

    long heard(int part, int what) {
        if (!in(part, 0, 11) || !in(what, 0, 3)) {
            return BAD;
        }
        Ear ear = ears.getOrDefault(part, new Ear());
        return new long[] {ear.often, ear.sum, ear.first, ear.greatest}[what];
    }

    int echo(int i) {
        if (i < 0) {
            return BAD;
        }
        int seen = 0;
        for (int h = 0; h < hits.size(); h++) {
            if (hits.get(h).heard) {
                if (seen == i) {
                    return h;
                }
                seen++;
            }
        }
        return NONE;
    }

    float mean() {
        long sum = 0;
        for (Hit hit : hits) {
            sum += hit.energy;
        }
        return hits.isEmpty() ? 0f : (float) sum / (float) hits.size();
    }

    int crossings(int chords) {
        if (!in(chords, 0, 200)) {
            return BAD;
        }
        List<int[]> seen = new ArrayList<>();
        int from = start;
        int pairs = 0;
        for (Hit hit : hits) {
            if (hit.ray == 0 && seen.size() < chords) {
                int[] chord = {from, hit.place};
                for (int[] other : seen) {
                    pairs += side(chord, other[0]) * side(chord, other[1]) < 0 ? 1 : 0;
                }
                seen.add(chord);
                from = hit.place;
            }
        }
        return pairs;
    }

    /** 0 at an end of the chord, else 1 or -1 by the side on which the place lies. */
    private static int side(int[] chord, int place) {
        int toEnd = Math.floorMod(chord[1] - chord[0], N);
        int toPlace = Math.floorMod(place - chord[0], N);
        return toPlace == 0 ? 0 : Integer.compare(toEnd, toPlace);
    }

    private static int sine(long scale, long a) {
        BigInteger n = BigInteger.valueOf(N);
        BigInteger bow = BigInteger.valueOf(a * (N - a));
        BigInteger below = n.multiply(n).multiply(BigInteger.valueOf(5))
                .subtract(bow.multiply(BigInteger.valueOf(4)));
        return BigInteger.valueOf(scale * 16).multiply(bow).divide(below).intValueExact();
    }

    private static final int[] TIMES = new int[N / 2];

    int time(int step) {
        if (!isStep(step)) {
            return BAD;
        }
        int a = Math.abs(step);
        if (TIMES[a] == 0) {
            TIMES[a] = sine(2000000, a);
        }
        return TIMES[a];
    }

    int caustic(int step) {
        return isStep(step) ? sine(1000000, N / 2 - Math.abs(step)) : BAD;
    }

    int order(int step) {
        if (!isStep(step)) {
            return BAD;
        }
        int chords = 1;
        long way = step;
        while (way % N != 0) {
            way += step;
            chords++;
        }
        return chords;
    }

    int turns(int step) {
        return isStep(step) ? (int) ((long) order(step) * Math.abs(step) / N) : BAD;
    }

    int aim(int from, int to, int chords) {
        if (!in(from, 0, N - 1) || !in(to, 0, N - 1) || !in(chords, 1, 50)) {
            return BAD;
        }
        for (int a = 1; a < N / 2; a++) {
            for (int step = a; step >= -a; step -= 2 * a) {
                if (Math.floorMod(from + chords * step, N) == to) {
                    return step;
                }
            }
        }
        return NONE;
    }

    int widest(int radius) {
        if (!in(radius, 0, 1000000)) {
            return BAD;
        }
        // Among the first steps stands one of the greatest order, and the caustics shrink.
        int best = NONE;
        for (int a = 1; a < 40; a++) {
            if (caustic(a) >= radius && (best == NONE || order(a) > order(best))) {
                best = a;
            }
        }
        return best;
    }

    int undo() {
        if (history.isEmpty()) {
            return NONE;
        }
        state = history.removeLast();
        return history.size();
    }

    long fingerprint() {
        List<Long> numbers = new ArrayList<>();
        numbers.add((long) parts());
        for (int i = 0; i < parts(); i++) {
            for (int what = 0; what < 4; what++) {
                numbers.add((long) part(i, what));
            }
        }
        numbers.addAll(List.of((long) state.loss, (long) state.threshold, (long) hits(),
                (long) rays(), (long) coverage()));
        for (int i = 0; i < hits(); i++) {
            for (int what = 0; what < 5; what++) {
                numbers.add(hit(i, what));
            }
        }
        for (int i = 0; i < 12; i++) {
            for (int what = 0; what < 4; what++) {
                numbers.add(heard(i, what));
            }
        }
        long print = 127;
        for (long number : numbers) {
            print = 31 * print + number;
        }
        return print;
    }
}
