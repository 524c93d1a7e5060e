/**
 * A whispering gallery: rays run along chords of a round wall of 27720 units and meet it in exact
 * steps; parts of the wall soak up sound, turn rays back, tilt them, split them or hear them.
 */
public final class GalleryRays {
    public static final int BAD = -100001;
    public static final int FULL = -100003;
    public static final int NONE = -100009;

    private static final int UNITS = 27720;
    private static final int LONGEST_STEP = 13859;
    private static final int UNIT_RADIUS = 1000000;

    private static final int SOAK = 0;
    private static final int BACK = 1;
    private static final int TILT = 2;
    private static final int SPLIT = 3;
    private static final int HEAR = 4;

    private static final int KIND = 0;
    private static final int FIRST = 1;
    private static final int MANY = 2;
    private static final int BY = 3;
    private static final int PART_NUMBERS = 4;
    private static final int MOST_PARTS = 12;

    private static final int MOST_LOSS = 999;
    private static final int MOST_THRESHOLD = 1000000;
    private static final int MOST_ENERGY = 1000000;

    private static final int MOST_HITS = 600;
    private static final int MOST_RAYS = 100;
    private static final int MOST_CHORDS = 200;
    private static final int HIT_NUMBERS = 5;
    private static final int EAR_NUMBERS = 4;

    private static final int MOST_AIM_CHORDS = 50;
    private static final int MOST_STATES = 5;
    private static final int MOST_SIGNS = 60;
    private static final int MOST_DIGITS = 5;
    private static final int TEXT_ERROR = -200;

    private final Wall wall;
    private final History history;
    private final Text text;
    private final Shot shot;

    public GalleryRays() {
        wall = new Wall();
        history = new History();
        text = new Text();
        shot = new Shot();
    }

    // ---- the wall

    public int add(int kind, int first, int many, int k) {
        if (!Parts.isAllowed(kind, first, many, k)) {
            return BAD;
        }
        if (wall.parts.count >= MOST_PARTS) {
            return FULL;
        }
        history.keep(wall);
        wall.parts.append(kind, first, many, k);
        return wall.parts.count - 1;
    }

    public int remove(int part) {
        if (!wall.parts.has(part)) {
            return BAD;
        }
        history.keep(wall);
        wall.parts.takeOut(part);
        return wall.parts.count;
    }

    public int part(int part, int what) {
        return wall.parts.numberOf(part, what);
    }

    public int parts() {
        return wall.parts.count;
    }

    public int setLoss(int loss) {
        if (loss < 0 || loss > MOST_LOSS) {
            return BAD;
        }
        history.keep(wall);
        int previous = wall.loss;
        wall.loss = loss;
        return previous;
    }

    public int setThreshold(int threshold) {
        if (threshold < 1 || threshold > MOST_THRESHOLD) {
            return BAD;
        }
        history.keep(wall);
        int previous = wall.threshold;
        wall.threshold = threshold;
        return previous;
    }

    public int type(int c) {
        if (c < 32 || c > 126) {
            return BAD;
        }
        if (text.length >= MOST_SIGNS) {
            return FULL;
        }
        text.append((char) c);
        return text.length;
    }

    public int clear() {
        int length = text.length;
        text.length = 0;
        return length;
    }

    public int read() {
        int error = text.errorPlace();
        if (error >= 0) {
            return TEXT_ERROR - error;
        }
        if (wall.parts.count + text.found.count > MOST_PARTS) {
            return FULL;
        }
        history.keep(wall);
        wall.parts.appendAll(text.found);
        text.length = 0;
        return text.found.count;
    }

    // ---- shots

    public int shoot(int place, int step, int energy) {
        if (!Circle.isPlace(place) || !Circle.isStep(step) || energy < 1 || energy > MOST_ENERGY) {
            return BAD;
        }
        shot.run(wall, place, step, energy);
        return shot.log.count;
    }

    public int hits() {
        return shot.log.count;
    }

    public long hit(int i, int what) {
        return shot.log.numberOf(i, what);
    }

    public int rays() {
        return shot.rayCount;
    }

    public int coverage() {
        return shot.marks.count;
    }

    public int gap() {
        return shot.marks.longestGap();
    }

    public long heard(int part, int what) {
        return shot.ears.numberOf(part, what);
    }

    public int echo(int i) {
        return shot.log.echoAt(i);
    }

    public float mean() {
        return shot.log.meanEnergy();
    }

    public int crossings(int chords) {
        if (chords < 0 || chords > MOST_CHORDS) {
            return BAD;
        }
        return shot.path.crossingPairs(chords);
    }

    // ---- chords

    public int time(int step) {
        return Circle.isStep(step) ? Circle.chordTime(step) : BAD;
    }

    public int caustic(int step) {
        return Circle.isStep(step) ? Circle.causticRadius(step) : BAD;
    }

    public int order(int step) {
        return Circle.isStep(step) ? UNITS / Circle.sharedDivisor(step) : BAD;
    }

    public int turns(int step) {
        return Circle.isStep(step) ? Math.abs(step) / Circle.sharedDivisor(step) : BAD;
    }

    public int aim(int from, int to, int chords) {
        if (!Circle.isPlace(from) || !Circle.isPlace(to)) {
            return BAD;
        }
        if (chords < 1 || chords > MOST_AIM_CHORDS) {
            return BAD;
        }
        int step = Circle.smallestStep(to - from, chords);
        return step == 0 ? NONE : step;
    }

    public int widest(int radius) {
        if (radius < 0 || radius > UNIT_RADIUS) {
            return BAD;
        }
        // No step has a greater order than 1, whose order is N, and none a wider caustic: so it is
        // step 1 or none.
        return Circle.causticRadius(1) >= radius ? 1 : NONE;
    }

    // ---- history

    public int undo() {
        if (history.count == 0) {
            return NONE;
        }
        history.restore(wall);
        return history.count;
    }

    public long fingerprint() {
        long print = mixed(127, parts());
        for (int part = 0; part < parts(); part++) {
            for (int what = 0; what < PART_NUMBERS; what++) {
                print = mixed(print, part(part, what));
            }
        }
        print = mixed(print, wall.loss);
        print = mixed(print, wall.threshold);
        print = mixed(print, hits());
        print = mixed(print, rays());
        print = mixed(print, coverage());
        for (int i = 0; i < hits(); i++) {
            for (int what = 0; what < HIT_NUMBERS; what++) {
                print = mixed(print, hit(i, what));
            }
        }
        for (int part = 0; part < MOST_PARTS; part++) {
            for (int what = 0; what < EAR_NUMBERS; what++) {
                print = mixed(print, heard(part, what));
            }
        }
        return print;
    }

    private static long mixed(long print, long number) {
        return 31 * print + number;
    }

    /** The units of the wall, and what a step makes of them. */
    private static final class Circle {
        static boolean isPlace(int place) {
            return place >= 0 && place < UNITS;
        }

        static boolean isStep(int step) {
            return step != 0 && step >= -LONGEST_STEP && step <= LONGEST_STEP;
        }

        static int placeAfter(int place, int step) {
            return Math.floorMod(place + step, UNITS);
        }

        /** The approximation of scale times the sine of pi * units / N, rounded down. */
        private static int sine(int scale, int units) {
            long bow = (long) units * (UNITS - units);
            return (int) (16L * scale * bow / (5L * UNITS * UNITS - 4L * bow));
        }

        static int chordTime(int step) {
            return sine(2 * UNIT_RADIUS, Math.abs(step));
        }

        static int causticRadius(int step) {
            return sine(UNIT_RADIUS, UNITS / 2 - Math.abs(step));
        }

        /** The greatest common divisor of a step and N; 1 at the least. */
        static int sharedDivisor(int step) {
            int divisor = UNITS;
            int rest = Math.abs(step);
            // The rest falls below half of itself in two rounds: a number of 15 bits needs few.
            for (int round = 0; round < 100 && rest != 0; round++) {
                int next = divisor % rest;
                divisor = rest;
                rest = next;
            }
            return divisor;
        }

        /** The step made greater by k in its own direction; 0 if that ends the ray. */
        static int tilted(int step, int k) {
            int size = Math.abs(step) + k;
            if (size < 1 || size > LONGEST_STEP) {
                return 0;
            }
            return step > 0 ? size : -size;
        }

        /** The smallest step that makes up the distance in so many chords; 0 if there is none. */
        static int smallestStep(int distance, int chords) {
            if (chords < 1) {
                return 0;
            }
            int best = 0;
            // All steps are shorter than half the circle, so the chords go around less than
            // chords / 2 times, and the distance itself is less than once around.
            for (int around = -chords; around <= chords; around++) {
                int way = distance + around * UNITS;
                if (way % chords == 0 && isStep(way / chords) && isBetter(way / chords, best)) {
                    best = way / chords;
                }
            }
            return best;
        }

        private static boolean isBetter(int step, int best) {
            int size = Math.abs(step);
            int bestSize = Math.abs(best);
            return best == 0 || size < bestSize || (size == bestSize && step > 0);
        }
    }

    /** Up to 12 parts, four numbers each, one after the other in a single row. */
    private static final class Parts {
        private final int[] numbers = new int[MOST_PARTS * PART_NUMBERS];
        private int count;

        static boolean isAllowed(int kind, int first, int many, int k) {
            return kind >= SOAK && kind <= HEAR && Circle.isPlace(first)
                    && many >= 1 && many <= UNITS && k >= leastBy(kind) && k <= mostBy(kind);
        }

        static int leastBy(int kind) {
            return mayBeNegative(kind) ? -9999 : 0;
        }

        static int mostBy(int kind) {
            if (mayBeNegative(kind)) {
                return 9999;
            }
            return kind == SOAK ? 1000 : 0;
        }

        static boolean mayBeNegative(int kind) {
            return kind == TILT || kind == SPLIT;
        }

        static boolean hasBy(int kind) {
            return kind == SOAK || mayBeNegative(kind);
        }

        static String word(int kind) {
            switch (kind) {
                case SOAK:
                    return "soak";
                case BACK:
                    return "back";
                case TILT:
                    return "tilt";
                case SPLIT:
                    return "split";
                default:
                    return "hear";
            }
        }

        boolean has(int part) {
            return part >= 0 && part < count;
        }

        int numberOf(int part, int what) {
            if (!has(part) || what < 0 || what >= PART_NUMBERS) {
                return BAD;
            }
            return numbers[part * PART_NUMBERS + what];
        }

        boolean covers(int part, int place) {
            return Math.floorMod(place - numberOf(part, FIRST), UNITS) < numberOf(part, MANY);
        }

        void append(int kind, int first, int many, int k) {
            if (count >= MOST_PARTS) {
                return;
            }
            int at = count * PART_NUMBERS;
            numbers[at + KIND] = kind;
            numbers[at + FIRST] = first;
            numbers[at + MANY] = many;
            numbers[at + BY] = k;
            count++;
        }

        void appendAll(Parts others) {
            for (int part = 0; part < others.count; part++) {
                append(others.numberOf(part, KIND), others.numberOf(part, FIRST),
                        others.numberOf(part, MANY), others.numberOf(part, BY));
            }
        }

        void takeOut(int part) {
            if (!has(part)) {
                return;
            }
            int at = part * PART_NUMBERS;
            int after = at + PART_NUMBERS;
            System.arraycopy(numbers, after, numbers, at, count * PART_NUMBERS - after);
            count--;
        }

        void copyFrom(Parts other) {
            System.arraycopy(other.numbers, 0, numbers, 0, other.count * PART_NUMBERS);
            count = other.count;
        }
    }

    /** All that an act changes: a state of the history. */
    private static final class Wall {
        private final Parts parts = new Parts();
        private int loss = 10;
        private int threshold = 1000;

        void copyFrom(Wall other) {
            parts.copyFrom(other.parts);
            loss = other.loss;
            threshold = other.threshold;
        }
    }

    /** The latest states, the oldest one first; their room is used again. */
    private static final class History {
        private final Wall[] states = new Wall[MOST_STATES];
        private int count;

        History() {
            for (int i = 0; i < states.length; i++) {
                states[i] = new Wall();
            }
        }

        void keep(Wall wall) {
            if (count >= MOST_STATES) {
                dropOldest();
            }
            states[count].copyFrom(wall);
            count++;
        }

        private void dropOldest() {
            Wall oldest = states[0];
            for (int i = 1; i < MOST_STATES; i++) {
                states[i - 1] = states[i];
            }
            states[MOST_STATES - 1] = oldest;
            count = MOST_STATES - 1;
        }

        void restore(Wall wall) {
            if (count < 1) {
                return;
            }
            count--;
            wall.copyFrom(states[count]);
        }
    }

    /**
     * The buffer of typed characters, and the parts that stand in it: they are read from left to
     * right up to the first character that cannot stand at its place.
     */
    private static final class Text {
        private final char[] signs = new char[MOST_SIGNS];
        private final Parts found = new Parts();
        private int length;
        private int at;
        private boolean broken;
        private int outOfRange;

        void append(char sign) {
            if (length < MOST_SIGNS) {
                signs[length] = sign;
                length++;
            }
        }

        /** The character at a place, or 0, which no text holds, where there is none. */
        private char signAt(int place) {
            return place >= 0 && place < length ? signs[place] : (char) 0;
        }

        /** Fills found with the parts of the text. Returns the error place; -1 without error. */
        int errorPlace() {
            found.count = 0;
            at = 0;
            broken = false;
            outOfRange = -1;
            readOne();
            for (int i = 0; i < MOST_SIGNS && !broken && at < length; i++) {
                take(';');
                readOne();
            }
            return broken ? at : outOfRange;
        }

        private void readOne() {
            int kind = takeWord();
            take(':');
            int first = takeNumber(0, UNITS - 1, false);
            take('+');
            int many = takeNumber(1, UNITS, false);
            int k = 0;
            if (Parts.hasBy(kind)) {
                take(',');
                k = takeNumber(Parts.leastBy(kind), Parts.mostBy(kind), Parts.mayBeNegative(kind));
            }
            if (!broken && outOfRange < 0) {
                found.append(kind, first, many, k);
            }
        }

        private void take(char sign) {
            if (broken) {
                return;
            }
            if (signAt(at) == sign) {
                at++;
            } else {
                broken = true;
            }
        }

        /** Returns the kind of the word; stops after the longest beginning of any word. */
        private int takeWord() {
            if (broken) {
                return HEAR;
            }
            int longest = 0;
            for (int kind = SOAK; kind <= HEAR; kind++) {
                String word = Parts.word(kind);
                int same = sameSigns(word);
                if (same == word.length()) {
                    at += same;
                    return kind;
                }
                longest = Math.max(longest, same);
            }
            at += longest;
            broken = true;
            return HEAR;
        }

        private int sameSigns(String word) {
            int same = 0;
            while (same < word.length() && signAt(at + same) == word.charAt(same)) {
                same++;
            }
            return same;
        }

        private int takeNumber(int least, int most, boolean mayBeNegative) {
            if (broken) {
                return 0;
            }
            boolean negative = mayBeNegative && signAt(at) == '-';
            if (negative) {
                at++;
            }
            int start = at;
            int number = 0;
            while (at < start + MOST_DIGITS && isDigit(signAt(at))) {
                number = 10 * number + (signAt(at) - '0');
                at++;
            }
            broken = at == start;
            if (negative) {
                number = -number;
            }
            if (outOfRange < 0 && (number < least || number > most)) {
                outOfRange = start;
            }
            return number;
        }

        private static boolean isDigit(char sign) {
            return sign >= '0' && sign <= '9';
        }
    }

    /** A ray on its way to its next hit: the place that it left, and the time when it arrives. */
    private static final class Ray {
        private final int number;
        private int place;
        private int step;
        private int energy;
        private long arrival;
        private boolean going;

        Ray(int number) {
            this.number = number;
        }

        void start(int from, int withStep, int withEnergy, long arrivesAt) {
            place = from;
            step = withStep;
            energy = withEnergy;
            arrival = arrivesAt;
            going = true;
        }

        void lose(int thousandths) {
            energy = energy * (1000 - thousandths) / 1000;
        }

        void tilt(int k) {
            int tilted = Circle.tilted(step, k);
            if (tilted == 0) {
                going = false;
            } else {
                step = tilted;
            }
        }
    }

    /** The latest shot: all that is told of it. */
    private static final class Shot {
        private final Ray[] rays = new Ray[MOST_RAYS];
        private final HitLog log = new HitLog();
        private final PlaceMarks marks = new PlaceMarks();
        private final Ears ears = new Ears();
        private final Path path = new Path();
        private int rayCount;

        Shot() {
            for (int i = 0; i < rays.length; i++) {
                rays[i] = new Ray(i);
            }
        }

        void run(Wall wall, int place, int step, int energy) {
            log.forget();
            marks.forget();
            ears.forget();
            path.startAt(place);
            rayCount = 0;
            begin(place, step, energy, Circle.chordTime(step));
            for (int i = 0; i < MOST_HITS; i++) {
                Ray ray = earliest();
                if (ray == null) {
                    return;
                }
                meet(wall, ray);
            }
        }

        private void begin(int place, int step, int energy, long arrival) {
            if (rayCount < MOST_RAYS) {
                rays[rayCount].start(place, step, energy, arrival);
                rayCount++;
            }
        }

        private Ray earliest() {
            Ray earliest = null;
            for (int i = 0; i < rayCount; i++) {
                Ray ray = rays[i];
                if (ray.going && (earliest == null || ray.arrival < earliest.arrival)) {
                    earliest = ray;
                }
            }
            return earliest;
        }

        private void meet(Wall wall, Ray ray) {
            ray.place = Circle.placeAfter(ray.place, ray.step);
            log.note(ray);
            marks.mark(ray.place);
            if (ray.number == 0) {
                path.goTo(ray.place);
            }
            ray.lose(wall.loss);
            for (int part = 0; part < wall.parts.count && ray.going; part++) {
                if (wall.parts.covers(part, ray.place)) {
                    act(wall, part, ray);
                }
            }
            if (ray.energy < wall.threshold) {
                ray.going = false;
            }
            if (ray.going) {
                ray.arrival += Circle.chordTime(ray.step);
            }
        }

        private void act(Wall wall, int part, Ray ray) {
            int k = wall.parts.numberOf(part, BY);
            switch (wall.parts.numberOf(part, KIND)) {
                case SOAK:
                    ray.lose(k);
                    break;
                case BACK:
                    ray.step = -ray.step;
                    break;
                case TILT:
                    ray.tilt(k);
                    break;
                case SPLIT:
                    split(ray, k, wall.threshold);
                    break;
                default: // HEAR
                    ears.hear(part, ray);
                    log.noteEcho();
                    break;
            }
        }

        private void split(Ray ray, int k, int threshold) {
            int half = ray.energy / 2;
            int step = Circle.tilted(ray.step, k);
            ray.energy -= half;
            if (step != 0 && half >= threshold) {
                begin(ray.place, step, half, ray.arrival + Circle.chordTime(step));
            }
        }
    }

    /** The hits of a shot, five numbers each, and which of them were heard. */
    private static final class HitLog {
        private final long[] numbers = new long[MOST_HITS * HIT_NUMBERS];
        private final int[] echoes = new int[MOST_HITS];
        private int count;
        private int echoCount;
        private long energySum;

        void forget() {
            count = 0;
            echoCount = 0;
            energySum = 0;
        }

        /** Notes a ray that has just come to the wall, with its energy before the loss. */
        void note(Ray ray) {
            if (count >= MOST_HITS) {
                return;
            }
            int at = count * HIT_NUMBERS;
            numbers[at] = ray.number;
            numbers[at + 1] = ray.place;
            numbers[at + 2] = ray.arrival;
            numbers[at + 3] = ray.energy;
            numbers[at + 4] = ray.step;
            energySum += ray.energy;
            count++;
        }

        /** Notes that the latest hit was heard, once for all parts that heard it. */
        void noteEcho() {
            int latest = count - 1;
            if (echoCount > 0 && echoes[echoCount - 1] == latest) {
                return;
            }
            if (echoCount < MOST_HITS) {
                echoes[echoCount] = latest;
                echoCount++;
            }
        }

        long numberOf(int i, int what) {
            if (i < 0 || i >= count || what < 0 || what >= HIT_NUMBERS) {
                return BAD;
            }
            return numbers[i * HIT_NUMBERS + what];
        }

        int echoAt(int i) {
            if (i < 0) {
                return BAD;
            }
            return i < echoCount ? echoes[i] : NONE;
        }

        float meanEnergy() {
            return count == 0 ? 0 : (float) energySum / (float) count;
        }
    }

    /** Which places were hit, a bit for each. */
    private static final class PlaceMarks {
        private final long[] words = new long[UNITS / 64 + 1];
        private int count;

        void forget() {
            for (int i = 0; i < words.length; i++) {
                words[i] = 0;
            }
            count = 0;
        }

        void mark(int place) {
            if (!Circle.isPlace(place)) {
                return;
            }
            long bit = 1L << (place % 64);
            if ((words[place / 64] & bit) == 0) {
                words[place / 64] |= bit;
                count++;
            }
        }

        private static int lowestBit(long word) {
            return Long.bitCount((word & -word) - 1);
        }

        int longestGap() {
            if (count == 0) {
                return UNITS;
            }
            int longest = 0;
            int leading = -1;
            int previous = -1;
            for (int i = 0; i < words.length; i++) {
                long left = words[i];
                for (int bit = 0; bit < 64 && left != 0; bit++) {
                    int place = 64 * i + lowestBit(left);
                    left &= left - 1;
                    if (leading < 0) {
                        leading = place;
                    }
                    longest = Math.max(longest, place - previous - 1);
                    previous = place;
                }
            }
            // Around the circle, the stretch after the last hit goes on before the first one.
            return Math.max(longest, leading + UNITS - previous - 1);
        }
    }

    /** What each part has heard in a shot, four numbers each. */
    private static final class Ears {
        private final long[] numbers = new long[MOST_PARTS * EAR_NUMBERS];

        Ears() {
            forget();
        }

        void forget() {
            for (int part = 0; part < MOST_PARTS; part++) {
                int at = part * EAR_NUMBERS;
                numbers[at] = 0;
                numbers[at + 1] = 0;
                numbers[at + 2] = NONE;
                numbers[at + 3] = 0;
            }
        }

        void hear(int part, Ray ray) {
            if (part < 0 || part >= MOST_PARTS) {
                return;
            }
            int at = part * EAR_NUMBERS;
            if (numbers[at] == 0) {
                numbers[at + 2] = ray.arrival;
            }
            numbers[at]++;
            numbers[at + 1] += ray.energy;
            numbers[at + 3] = Math.max(numbers[at + 3], ray.energy);
        }

        long numberOf(int part, int what) {
            if (part < 0 || part >= MOST_PARTS || what < 0 || what >= EAR_NUMBERS) {
                return BAD;
            }
            return numbers[part * EAR_NUMBERS + what];
        }
    }

    /** The places that ray 0 went through, as far as crossings are asked for. */
    private static final class Path {
        private final int[] corners = new int[MOST_CHORDS + 1];
        private int count;

        void startAt(int place) {
            count = 0;
            goTo(place);
        }

        void goTo(int place) {
            if (count < corners.length) {
                corners[count] = place;
                count++;
            }
        }

        int crossingPairs(int chords) {
            int ends = Math.min(chords + 1, count);
            int pairs = 0;
            for (int i = 1; i < ends; i++) {
                for (int j = i + 1; j < ends; j++) {
                    if (cross(corners[i - 1], corners[i], corners[j - 1], corners[j])) {
                        pairs++;
                    }
                }
            }
            return pairs;
        }

        /** A chord's ends cut the wall in two: the places between them and those beyond them. */
        private static boolean cross(int a, int b, int c, int d) {
            int low = Math.min(a, b);
            int high = Math.max(a, b);
            return (isBetween(low, c, high) && isBeyond(low, d, high))
                    || (isBeyond(low, c, high) && isBetween(low, d, high));
        }

        private static boolean isBetween(int low, int place, int high) {
            return low < place && place < high;
        }

        private static boolean isBeyond(int low, int place, int high) {
            return place < low || place > high;
        }
    }
}
