import java.util.Arrays;

/**
 * A cache that lets in only what is asked for more often than what would have to go.
 * The document numbers the promises that it keeps; README.md shows how to use it.
 */
public final class SketchCache {
    public static final int NONE = -1;
    public static final int BAD = -2;
    public static final int REFUSED = -3;

    private static final int KEYS = 100;
    private static final int MOST_UNITS = 20;
    private static final int MOST_ROWS = 4;
    private static final int LEAST_CAPACITY = 4;
    private static final int MOST_CAPACITY = 200;
    private static final int COUNTERS = 64;
    private static final int FULL_COUNTER = 15;
    private static final int BITS = 128;
    private static final int MOST_STEPS = 100;
    private static final int TRACE_LENGTH = 300;
    private static final int MOST_SEATS = 30;
    private static final int SAVE_PLACES = 4;

    private static final int WINDOW = 0;
    private static final int PROBATION = 1;
    private static final int PROTECTED = 2;
    private static final int PARTS = 3;

    private static final int[] LEAST_RULE = {0, 0, 10, 0, 0, 5};
    private static final int[] MOST_RULE = {1, 1, 1000, 2, 20, 500};

    private final int sketchRows;
    private final int capacity;
    private final int firstWindow;
    private final State now;
    private final State[] saved = new State[SAVE_PLACES];
    private final Player player = new Player();

    public SketchCache(int rows, int capacity, int window) {
        this.sketchRows = Math.max(1, Math.min(MOST_ROWS, rows));
        this.capacity = Math.max(LEAST_CAPACITY, Math.min(MOST_CAPACITY, capacity));
        this.firstWindow = Math.max(1, Math.min(this.capacity - 1, window));
        this.now = new State(this.sketchRows, this.capacity, this.firstWindow);
    }

    public int place(int row, int key, int counter) {
        if (row < 0 || row >= sketchRows || !isKey(key) || counter < 0 || counter >= COUNTERS) {
            return BAD;
        }
        return now.cache.sketch.tellPlace(row, key, counter);
    }

    public int door(int which, int key, int bit) {
        if (which < 0 || which > 1 || !isKey(key) || bit < 0 || bit >= BITS) {
            return BAD;
        }
        return now.cache.sketch.tellBit(which, key, bit);
    }

    public int rule(int what, int v) {
        if (what < 0 || what >= LEAST_RULE.length || what >= MOST_RULE.length) {
            return BAD;
        }
        if (v < LEAST_RULE[what] || v > MOST_RULE[what]) {
            return BAD;
        }
        return now.tellRule(what, v);
    }

    public int size(int key, int units) {
        if (!isKey(key) || units < 1 || units > MOST_UNITS) {
            return BAD;
        }
        Rows parts = now.cache.parts;
        if (parts.rowOf[key] != NONE) {
            return REFUSED;
        }
        int before = parts.sizes[key];
        parts.sizes[key] = units;
        return before;
    }

    public int access(int key) {
        return isKey(key) ? now.visit(key) : BAD;
    }

    public int run(int key, int step, int n) {
        if (!isKey(key) || !isKey(step) || n < 1 || n > MOST_STEPS) {
            return BAD;
        }
        int hits = 0;
        int asked = key;
        for (int i = 0; i < n; i++) {
            if (now.visit(asked) >= State.FIRST_HIT) {
                hits++;
            }
            asked = (asked + step) % KEYS;
        }
        return hits;
    }

    public int add(int key) {
        if (!isKey(key)) {
            return BAD;
        }
        now.cache.sketch.put(key);
        return now.cache.sketch.guess(key);
    }

    public int estimate(int key) {
        return isKey(key) ? now.cache.sketch.guess(key) : BAD;
    }

    public int counter(int row, int i) {
        if (row < 0 || row >= sketchRows || i < 0 || i >= COUNTERS) {
            return BAD;
        }
        return now.cache.sketch.counters[row][i];
    }

    public int bit(int i) {
        return i >= 0 && i < BITS ? now.cache.sketch.bits[i] : BAD;
    }

    public int remove(int key) {
        if (!isKey(key)) {
            return BAD;
        }
        int part = now.cache.parts.rowOf[key];
        now.cache.parts.takeOut(key);
        return part;
    }

    public int where(int key) {
        return isKey(key) ? now.cache.parts.rowOf[key] : BAD;
    }

    public int key(int part, int i) {
        return part >= 0 && part < PARTS ? now.cache.parts.keyAt(part, i) : BAD;
    }

    public int about(int what) {
        return now.tellAbout(what);
    }

    public int trace(int i) {
        return now.trace.keyAt(i);
    }

    public int replay(int policy, int n, int from, int to) {
        if (policy < 0 || policy >= Player.POLICIES || n < 1 || n > MOST_SEATS) {
            return BAD;
        }
        if (from < 0 || from > to || to > now.trace.count) {
            return BAD;
        }
        return player.play(policy, n, now.trace, from, to);
    }

    public int kept(int i) {
        return player.keptAt(i);
    }

    public int save(int place) {
        if (place < 0 || place >= SAVE_PLACES) {
            return BAD;
        }
        // Made at the first save only, so that many saves do not fill the room.
        if (saved[place] == null) {
            saved[place] = new State(sketchRows, capacity, firstWindow);
        }
        saved[place].copyFrom(now);
        return now.accesses;
    }

    public int load(int place) {
        if (place < 0 || place >= SAVE_PLACES) {
            return BAD;
        }
        if (saved[place] == null) {
            return NONE;
        }
        now.copyFrom(saved[place]);
        return now.accesses;
    }

    public int sound() {
        return now.cache.isSound() && now.cache.sketch.isSound() ? 1 : 0;
    }

    private static boolean isKey(int key) {
        return key >= 0 && key < KEYS;
    }

    /** Rows of keys, each from its first to its last; a key is in one of them at most. */
    private static final class Rows {
        final int[][] keys;
        final int[] counts;
        final int[] units;
        final int[] rowOf = new int[KEYS];
        final int[] sizes = new int[KEYS];

        Rows(int howMany) {
            int rows = Math.max(1, howMany);
            keys = new int[rows][KEYS];
            counts = new int[rows];
            units = new int[rows];
            Arrays.fill(rowOf, NONE);
            Arrays.fill(sizes, 1);
        }

        void clear() {
            Arrays.fill(counts, 0);
            Arrays.fill(units, 0);
            Arrays.fill(rowOf, NONE);
        }

        int keyAt(int row, int i) {
            return i >= 0 && i < counts[row] ? keys[row][i] : NONE;
        }

        void takeOut(int key) {
            int row = rowOf[key];
            if (row == NONE) {
                return;
            }
            int[] line = keys[row];
            int last = counts[row] - 1;
            boolean passed = false;
            for (int i = 0; i < last; i++) {
                passed = passed || line[i] == key;
                if (passed) {
                    line[i] = line[i + 1];
                }
            }
            counts[row] = last;
            units[row] -= sizes[key];
            rowOf[key] = NONE;
        }

        /** For a key that is in no row. */
        void append(int row, int key) {
            int end = counts[row];
            if (end >= KEYS) {
                return;
            }
            keys[row][end] = key;
            counts[row] = end + 1;
            units[row] += sizes[key];
            rowOf[key] = row;
        }

        void moveToLast(int row, int key) {
            takeOut(key);
            append(row, key);
        }

        void moveFirst(int from, int to) {
            int first = keyAt(from, 0);
            if (first != NONE) {
                takeOut(first);
                append(to, first);
            }
        }

        void dropFirst(int row) {
            int first = keyAt(row, 0);
            if (first != NONE) {
                takeOut(first);
            }
        }

        int appearancesOf(int key) {
            int found = 0;
            for (int row = 0; row < keys.length; row++) {
                for (int i = 0; i < counts[row]; i++) {
                    if (keys[row][i] == key) {
                        found++;
                    }
                }
            }
            return found;
        }

        /** Counted anew from the keys, so that it can prove the running sum wrong. */
        int countedUnits(int row) {
            int sum = 0;
            for (int i = 0; i < counts[row]; i++) {
                sum += sizes[keys[row][i]];
            }
            return sum;
        }

        void copyFrom(Rows other) {
            for (int row = 0; row < keys.length && row < other.keys.length; row++) {
                System.arraycopy(other.keys[row], 0, keys[row], 0, KEYS);
                counts[row] = other.counts[row];
                units[row] = other.units[row];
            }
            System.arraycopy(other.rowOf, 0, rowOf, 0, KEYS);
            System.arraycopy(other.sizes, 0, sizes, 0, KEYS);
        }
    }

    /** Small counters that tell how often a key was asked for, and the door before them. */
    private static final class Sketch {
        // Always room for the most rows, so that any two sketches can be copied.
        final int[][] counters = new int[MOST_ROWS][COUNTERS];
        final int[] bits = new int[BITS];
        private final int[][] places = new int[MOST_ROWS][KEYS];
        private final int[][] doorBits = new int[2][KEYS];
        private final int[] addedSince = new int[KEYS];
        private final int rows;
        private int doorInUse = 1;
        private int careful = 0;
        private int sample = 200;
        int added = 0;
        int aged = 0;

        Sketch(int rows) {
            this.rows = Math.max(1, Math.min(MOST_ROWS, rows));
            for (int key = 0; key < KEYS; key++) {
                for (int row = 0; row < MOST_ROWS; row++) {
                    places[row][key] = (key * (2 * row + 5) + 11 * row) % COUNTERS;
                }
                doorBits[0][key] = key;
                doorBits[1][key] = (5 * key + 64) % BITS;
            }
        }

        int tellPlace(int row, int key, int place) {
            int before = places[row][key];
            places[row][key] = place;
            forgetIfChanged(before, place);
            return before;
        }

        int tellBit(int which, int key, int bit) {
            int before = doorBits[which][key];
            doorBits[which][key] = bit;
            forgetIfChanged(before, bit);
            return before;
        }

        int tellDoorInUse(int v) {
            int before = doorInUse;
            doorInUse = v;
            forgetIfChanged(before, v);
            return before;
        }

        int tellCareful(int v) {
            int before = careful;
            careful = v;
            forgetIfChanged(before, v);
            return before;
        }

        int tellSample(int v) {
            int before = sample;
            sample = v;
            return before;
        }

        /** The theorem holds only for keys that were added by the rules and places of now. */
        private void forgetIfChanged(int before, int after) {
            if (before != after) {
                Arrays.fill(addedSince, 0);
            }
        }

        void put(int key) {
            added++;
            addedSince[key]++;
            if (doorInUse == 1 && !isPastDoor(key)) {
                bits[doorBits[0][key]] = 1;
                bits[doorBits[1][key]] = 1;
            } else {
                growCounters(key);
            }
            if (added >= sample) {
                age();
            }
        }

        private boolean isPastDoor(int key) {
            return bits[doorBits[0][key]] == 1 && bits[doorBits[1][key]] == 1;
        }

        private void growCounters(int key) {
            int limit = careful == 1 ? smallestCounter(key) : FULL_COUNTER;
            for (int row = 0; row < rows; row++) {
                int place = places[row][key];
                int count = counters[row][place];
                if (count <= limit && count < FULL_COUNTER) {
                    counters[row][place] = count + 1;
                }
            }
        }

        private int smallestCounter(int key) {
            int smallest = FULL_COUNTER;
            for (int row = 0; row < rows; row++) {
                int count = counters[row][places[row][key]];
                if (count < smallest) {
                    smallest = count;
                }
            }
            return smallest;
        }

        private void age() {
            for (int row = 0; row < rows; row++) {
                for (int i = 0; i < COUNTERS; i++) {
                    counters[row][i] /= 2;
                }
            }
            Arrays.fill(bits, 0);
            Arrays.fill(addedSince, 0);
            added = sample / 2;
            aged++;
        }

        int guess(int key) {
            int smallest = smallestCounter(key);
            return doorInUse == 1 && isPastDoor(key) ? smallest + 1 : smallest;
        }

        boolean isSound() {
            for (int row = 0; row < rows; row++) {
                for (int i = 0; i < COUNTERS; i++) {
                    if (counters[row][i] < 0 || counters[row][i] > FULL_COUNTER) {
                        return false;
                    }
                }
            }
            for (int key = 0; key < KEYS; key++) {
                if (guess(key) < Math.min(FULL_COUNTER, addedSince[key])) {
                    return false;
                }
            }
            return true;
        }

        void copyFrom(Sketch other) {
            for (int row = 0; row < MOST_ROWS; row++) {
                System.arraycopy(other.counters[row], 0, counters[row], 0, COUNTERS);
                System.arraycopy(other.places[row], 0, places[row], 0, KEYS);
            }
            for (int which = 0; which < 2; which++) {
                System.arraycopy(other.doorBits[which], 0, doorBits[which], 0, KEYS);
            }
            System.arraycopy(other.bits, 0, bits, 0, BITS);
            System.arraycopy(other.addedSince, 0, addedSince, 0, KEYS);
            doorInUse = other.doorInUse;
            careful = other.careful;
            sample = other.sample;
            added = other.added;
            aged = other.aged;
        }
    }

    /** The window and the two parts of main, and who comes in or goes out by the sketch. */
    private static final class Cache {
        private static final int MODE_EACH = 0;
        private static final int MODE_SUM = 1;
        private static final int MODE_ALWAYS = 2;

        final Sketch sketch;
        final Rows parts = new Rows(PARTS);
        private final int capacity;
        private int mode = MODE_EACH;
        int window;
        int outs = 0;

        Cache(int sketchRows, int capacity, int window) {
            this.sketch = new Sketch(sketchRows);
            this.capacity = capacity;
            this.window = window;
        }

        int tellMode(int v) {
            int before = mode;
            mode = v;
            return before;
        }

        int protectedLimit() {
            return (capacity - window) * 4 / 5;
        }

        int keysThere() {
            return parts.counts[WINDOW] + keysInMain();
        }

        private int keysInMain() {
            return parts.counts[PROBATION] + parts.counts[PROTECTED];
        }

        private int unitsInMain() {
            return parts.units[PROBATION] + parts.units[PROTECTED];
        }

        void touch(int key) {
            int part = parts.rowOf[key];
            if (part == PROBATION) {
                parts.moveToLast(PROTECTED, key);
                settle();
            } else if (part != NONE) {
                parts.moveToLast(part, key);
            }
        }

        private void settle() {
            int limit = protectedLimit();
            for (int left = parts.counts[PROTECTED]; left > 0; left--) {
                if (parts.units[PROTECTED] <= limit) {
                    return;
                }
                parts.moveToLast(PROBATION, parts.keys[PROTECTED][0]);
            }
        }

        /** For a key that is not there; the window may have more than its units then. */
        void bringIn(int key) {
            int units = parts.sizes[key];
            if (units > capacity) {
                return;
            }
            if (units > window) {
                judge(key);
            } else {
                parts.append(WINDOW, key);
            }
        }

        void overflow() {
            for (int left = parts.counts[WINDOW]; left > 0; left--) {
                if (parts.units[WINDOW] <= window) {
                    return;
                }
                int candidate = parts.keys[WINDOW][0];
                parts.takeOut(candidate);
                judge(candidate);
            }
        }

        private void judge(int candidate) {
            if (parts.sizes[candidate] > capacity - window) {
                outs++;
                return;
            }
            int needed = victimsNeeded(candidate);
            int beaten = victimsBeaten(candidate, needed);
            for (int i = 0; i < beaten; i++) {
                parts.takeOut(victimAt(0));
                outs++;
            }
            if (beaten == needed) {
                parts.append(PROBATION, candidate);
                return;
            }
            outs++;
            if (mode == MODE_SUM) {
                spare(needed);
            }
        }

        /** The fewest that would make room: 0 if there is room already. */
        private int victimsNeeded(int candidate) {
            int lacking = unitsInMain() + parts.sizes[candidate] - (capacity - window);
            int inMain = keysInMain();
            int needed = 0;
            while (needed < inMain && lacking > 0) {
                lacking -= parts.sizes[victimAt(needed)];
                needed++;
            }
            return needed;
        }

        /** How many of the victims go out for the candidate, which stays out if that is too few. */
        private int victimsBeaten(int candidate, int needed) {
            if (mode == MODE_ALWAYS) {
                return needed;
            }
            int guess = sketch.guess(candidate);
            int sum = 0;
            for (int i = 0; i < needed; i++) {
                int ofVictim = sketch.guess(victimAt(i));
                sum += ofVictim;
                if (mode == MODE_EACH && guess <= ofVictim) {
                    return i;
                }
            }
            return mode == MODE_EACH || guess > sum ? needed : 0;
        }

        private void spare(int victims) {
            int ofProbation = Math.min(victims, parts.counts[PROBATION]);
            for (int i = 0; i < victims; i++) {
                int part = i < ofProbation ? PROBATION : PROTECTED;
                parts.moveToLast(part, parts.keys[part][0]);
            }
        }

        /** The order in which main gives up its keys; NONE behind the last of them. */
        private int victimAt(int i) {
            int ofProbation = parts.counts[PROBATION];
            return i < ofProbation ? parts.keyAt(PROBATION, i) : parts.keyAt(PROTECTED, i - ofProbation);
        }

        /** The window may have more than its units then. */
        void resize(int units) {
            window = Math.max(1, Math.min(capacity - 1, units));
            settle();
            for (int left = keysInMain(); left > 0; left--) {
                if (unitsInMain() <= capacity - window) {
                    return;
                }
                parts.moveToLast(WINDOW, victimAt(0));
            }
        }

        boolean isSound() {
            for (int key = 0; key < KEYS; key++) {
                if (parts.appearancesOf(key) > 1) {
                    return false;
                }
            }
            int ofProtected = parts.countedUnits(PROTECTED);
            return parts.countedUnits(WINDOW) <= window
                && parts.countedUnits(PROBATION) + ofProtected <= capacity - window
                && ofProtected <= protectedLimit();
        }

        void copyFrom(Cache other) {
            sketch.copyFrom(other.sketch);
            parts.copyFrom(other.parts);
            mode = other.mode;
            window = other.window;
            outs = other.outs;
        }
    }

    /** How the window grows and shrinks by the hits of each period. */
    private static final class Climb {
        private int step = 0;
        private int period = 20;
        int direction = 1;
        int hits = 0;
        int accesses = 0;
        int hitsBefore = 0;

        int tellStep(int v) {
            int before = step;
            step = v;
            beginAnew();
            return before;
        }

        int tellPeriod(int v) {
            int before = period;
            period = v;
            beginAnew();
            return before;
        }

        /** The direction stays: only the periods are counted anew, and the next one is the first. */
        private void beginAnew() {
            hits = 0;
            accesses = 0;
            hitsBefore = 0;
        }

        /** By how much the window grows behind this access; 0 within a period. */
        int growthAfter(boolean hit) {
            if (step == 0) {
                return 0;
            }
            accesses++;
            if (hit) {
                hits++;
            }
            if (accesses < period) {
                return 0;
            }
            if (hits < hitsBefore) {
                direction = -direction;
            }
            hitsBefore = hits;
            hits = 0;
            accesses = 0;
            return direction * step;
        }

        void copyFrom(Climb other) {
            step = other.step;
            period = other.period;
            direction = other.direction;
            hits = other.hits;
            accesses = other.accesses;
            hitsBefore = other.hitsBefore;
        }
    }

    /** The latest accesses, in a ring so that the earliest one is forgotten at no cost. */
    private static final class Trace {
        private final int[] ring = new int[TRACE_LENGTH];
        private int earliest = 0;
        int count = 0;

        void note(int key) {
            ring[(earliest + count) % TRACE_LENGTH] = key;
            if (count < TRACE_LENGTH) {
                count++;
            } else {
                earliest = (earliest + 1) % TRACE_LENGTH;
            }
        }

        int keyAt(int i) {
            return i >= 0 && i < count ? ring[(earliest + i) % TRACE_LENGTH] : NONE;
        }

        void copyFrom(Trace other) {
            System.arraycopy(other.ring, 0, ring, 0, TRACE_LENGTH);
            earliest = other.earliest;
            count = other.count;
        }
    }

    /** All that is saved and loaded. */
    private static final class State {
        private static final int ABSENT_MISS = 0;
        private static final int PRESENT_MISS = 1;
        static final int FIRST_HIT = 2;

        final Cache cache;
        final Trace trace = new Trace();
        private final Climb climb = new Climb();
        int accesses = 0;
        private int hits = 0;

        State(int sketchRows, int capacity, int window) {
            cache = new Cache(sketchRows, capacity, window);
        }

        int visit(int key) {
            accesses++;
            trace.note(key);
            cache.sketch.put(key);
            int part = cache.parts.rowOf[key];
            boolean hit = part != NONE;
            if (hit) {
                hits++;
                cache.touch(key);
            } else {
                cache.bringIn(key);
                cache.overflow();
            }
            int growth = climb.growthAfter(hit);
            if (growth != 0) {
                cache.resize(cache.window + growth);
                cache.overflow();
            }
            if (hit) {
                return FIRST_HIT + part;
            }
            return cache.parts.rowOf[key] == NONE ? ABSENT_MISS : PRESENT_MISS;
        }

        int tellRule(int what, int v) {
            switch (what) {
                case 0: return cache.sketch.tellDoorInUse(v);
                case 1: return cache.sketch.tellCareful(v);
                case 2: return cache.sketch.tellSample(v);
                case 3: return cache.tellMode(v);
                case 4: return climb.tellStep(v);
                case 5: return climb.tellPeriod(v);
                default: return BAD;
            }
        }

        int tellAbout(int what) {
            switch (what) {
                case 0: return cache.window;
                case 1: return cache.protectedLimit();
                case 2: return cache.parts.units[WINDOW];
                case 3: return cache.parts.units[PROBATION];
                case 4: return cache.parts.units[PROTECTED];
                case 5: return cache.keysThere();
                case 6: return cache.sketch.added;
                case 7: return cache.sketch.aged;
                case 8: return accesses;
                case 9: return hits;
                case 10: return cache.outs;
                case 11: return climb.direction;
                case 12: return climb.hits;
                case 13: return climb.accesses;
                case 14: return climb.hitsBefore;
                case 15: return trace.count;
                default: return BAD;
            }
        }

        void copyFrom(State other) {
            cache.copyFrom(other.cache);
            trace.copyFrom(other.trace);
            climb.copyFrom(other.climb);
            accesses = other.accesses;
            hits = other.hits;
        }
    }

    /** A cache of keys that a replay goes through. */
    private abstract static class Policy {
        abstract void begin(int n);

        /** Whether it was a hit; nextUse is where the part asks for the key again. */
        abstract boolean asks(int key, int at, int nextUse);

        abstract boolean holds(int key);
    }

    /** Policies that differ just in which of the seated keys goes out. */
    private static final class Seats extends Policy {
        static final int USED_LONGEST_AGO = 0;
        static final int CAME_FIRST = 1;
        static final int UNMARKED_AT_HAND = 2;
        static final int FEWEST_USES = 3;
        static final int ASKED_LATEST = 4;

        private final int leaver;
        private final int[] keys = new int[MOST_SEATS];
        private final int[] came = new int[MOST_SEATS];
        private final int[] used = new int[MOST_SEATS];
        private final int[] uses = new int[MOST_SEATS];
        private final int[] next = new int[MOST_SEATS];
        private final int[] marks = new int[MOST_SEATS];
        private int seats = 1;
        private int taken = 0;
        private int hand = 0;

        Seats(int leaver) {
            this.leaver = leaver;
        }

        void begin(int n) {
            seats = Math.max(1, Math.min(MOST_SEATS, n));
            taken = 0;
            hand = 0;
        }

        boolean asks(int key, int at, int nextUse) {
            int seat = seatOf(key);
            boolean hit = seat != NONE;
            if (!hit) {
                seat = freeSeat();
                keys[seat] = key;
                came[seat] = at;
                uses[seat] = 0;
            }
            marks[seat] = hit ? 1 : 0;
            used[seat] = at;
            uses[seat]++;
            next[seat] = nextUse;
            return hit;
        }

        boolean holds(int key) {
            return seatOf(key) != NONE;
        }

        private int seatOf(int key) {
            for (int seat = 0; seat < taken; seat++) {
                if (keys[seat] == key) {
                    return seat;
                }
            }
            return NONE;
        }

        private int freeSeat() {
            if (taken < seats) {
                taken++;
                return taken - 1;
            }
            return leaver == UNMARKED_AT_HAND ? seatByHand() : seatByRank();
        }

        private int seatByHand() {
            // A whole round leaves no key marked, so the hand stops at the next seat at the latest.
            for (int left = seats; left > 0 && marks[hand] == 1; left--) {
                marks[hand] = 0;
                hand = nextSeat(hand);
            }
            int seat = hand;
            hand = nextSeat(hand);
            return seat;
        }

        private int nextSeat(int seat) {
            return seat + 1 < seats ? seat + 1 : 0;
        }

        private int seatByRank() {
            int leaving = 0;
            for (int seat = 1; seat < taken; seat++) {
                if (goesBefore(seat, leaving)) {
                    leaving = seat;
                }
            }
            return leaving;
        }

        private boolean goesBefore(int one, int other) {
            switch (leaver) {
                case CAME_FIRST:
                    return came[one] < came[other];
                case FEWEST_USES:
                    return uses[one] < uses[other]
                        || uses[one] == uses[other] && used[one] < used[other];
                case ASKED_LATEST:
                    return next[one] > next[other]
                        || next[one] == next[other] && keys[one] < keys[other];
                default:
                    return used[one] < used[other];
            }
        }
    }

    /** Two rows of keys that are there, two of keys that were, and a goal for the first. */
    private static final class FourRows extends Policy {
        private static final int T = 0;
        private static final int U = 1;
        private static final int V = 2;
        private static final int X = 3;

        private final Rows rows = new Rows(4);
        private int most = 1;
        private int goal = 0;

        void begin(int n) {
            rows.clear();
            most = n;
            goal = 0;
        }

        boolean asks(int key, int at, int nextUse) {
            int row = rows.rowOf[key];
            if (row == NONE) {
                makeRoomForNew();
                rows.append(T, key);
                return false;
            }
            if (row == V) {
                goal = Math.min(most, goal + ratio(rows.counts[X], rows.counts[V]));
                makeRoom(false);
            } else if (row == X) {
                goal = Math.max(0, goal - ratio(rows.counts[V], rows.counts[X]));
                makeRoom(true);
            }
            rows.moveToLast(U, key);
            return row == T || row == U;
        }

        boolean holds(int key) {
            return rows.rowOf[key] == T || rows.rowOf[key] == U;
        }

        private static int ratio(int keys, int byKeys) {
            return byKeys > 0 ? Math.max(1, keys / byKeys) : 1;
        }

        private void makeRoomForNew() {
            int ofT = rows.counts[T];
            int ofTandV = ofT + rows.counts[V];
            int ofAll = ofTandV + rows.counts[U] + rows.counts[X];
            if (ofTandV >= most) {
                if (ofT < most) {
                    rows.dropFirst(V);
                    makeRoom(false);
                } else {
                    rows.dropFirst(T);
                }
            } else if (ofAll >= most) {
                if (ofAll >= 2 * most) {
                    rows.dropFirst(X);
                }
                makeRoom(false);
            }
        }

        private void makeRoom(boolean wasInX) {
            int ofT = rows.counts[T];
            boolean tooManyInT = ofT > 0 && (ofT > goal || ofT == goal && wasInX);
            if (tooManyInT || rows.counts[U] == 0) {
                rows.moveFirst(T, V);
            } else {
                rows.moveFirst(U, X);
            }
        }
    }

    /** Replays parts of the trace, with rows that every replay uses again. */
    private static final class Player {
        static final int POLICIES = 6;
        private static final int NEVER = TRACE_LENGTH;

        private final Policy[] policies = new Policy[POLICIES];
        private final int[] nextUse = new int[TRACE_LENGTH];
        private final int[] seenAt = new int[KEYS];
        private final int[] keptKeys = new int[MOST_SEATS];
        private int keptCount = 0;

        Player() {
            policies[0] = new Seats(Seats.USED_LONGEST_AGO);
            policies[1] = new Seats(Seats.CAME_FIRST);
            policies[2] = new Seats(Seats.UNMARKED_AT_HAND);
            policies[3] = new Seats(Seats.FEWEST_USES);
            policies[4] = new Seats(Seats.ASKED_LATEST);
            policies[5] = new FourRows();
        }

        /** The caller has seen to it that the policy, n, from and to are as the document says. */
        int play(int policy, int n, Trace trace, int from, int to) {
            Policy chosen = policies[policy];
            lookAhead(trace, from, to);
            chosen.begin(n);
            int hits = 0;
            for (int i = from; i < to; i++) {
                if (chosen.asks(trace.keyAt(i), i, nextUse[i])) {
                    hits++;
                }
            }
            keepFrom(chosen);
            return hits;
        }

        private void lookAhead(Trace trace, int from, int to) {
            Arrays.fill(seenAt, NEVER);
            for (int i = to - 1; i >= from; i--) {
                int key = trace.keyAt(i);
                nextUse[i] = seenAt[key];
                seenAt[key] = i;
            }
        }

        private void keepFrom(Policy policy) {
            keptCount = 0;
            for (int key = 0; key < KEYS && keptCount < MOST_SEATS; key++) {
                if (policy.holds(key)) {
                    keptKeys[keptCount] = key;
                    keptCount++;
                }
            }
        }

        int keptAt(int i) {
            return i >= 0 && i < keptCount ? keptKeys[i] : NONE;
        }
    }
}
