import java.lang.reflect.Field;

/**
 * Promise 21: the theorem holds whatever is called, so a 0 can only be seen by
 * reaching into the object and breaking it; the fields are named here for that.
 */
public final class SoundTest {
    private static final Due DUE = new Due("SoundTest");

    private static Object at(Object from, String path) throws ReflectiveOperationException {
        Object here = from;
        for (String name : path.split("\\.")) {
            Field field = here.getClass().getDeclaredField(name);
            field.setAccessible(true);
            here = field.get(here);
        }
        return here;
    }

    private static SketchCache some() {
        SketchCache x = new SketchCache(2, 10, 3);
        x.run(0, 1, 10);
        x.run(0, 1, 5);
        x.add(1);
        DUE.is("before it is broken", x.sound(), 1);
        return x;
    }

    private static void broken() throws ReflectiveOperationException {
        SketchCache twice = some();
        int[][] keys = (int[][]) at(twice, "now.cache.parts.keys");
        keys[1][0] = keys[0][0];
        DUE.is("a key in two parts", twice.sound(), 0);

        SketchCache twiceInOne = some();
        int[][] line = (int[][]) at(twiceInOne, "now.cache.parts.keys");
        line[0][0] = line[0][1];
        DUE.is("a key twice in one part", twiceInOne.sound(), 0);

        SketchCache leastKey = some();
        ((int[][]) at(leastKey, "now.cache.parts.keys"))[0][0] = 0;
        DUE.is("key 0 in two parts", leastKey.sound(), 0);

        SketchCache full = some();
        ((int[]) at(full, "now.cache.parts.sizes"))[full.key(1, 0)] = 2;
        DUE.is("one unit too many in main", full.sound(), 0);

        for (int part = 0; part < 3; part++) {
            SketchCache large = some();
            ((int[]) at(large, "now.cache.parts.sizes"))[large.key(part, 0)] = 20;
            DUE.is("more units in part " + part, large.sound(), 0);
        }

        SketchCache settled = new SketchCache(1, 10, 5);
        settled.run(0, 1, 10);
        settled.run(0, 1, 4);
        DUE.is("protected is full", settled.about(4) * 10 + settled.sound(), 41);
        int[][] rows = (int[][]) at(settled, "now.cache.parts.keys");
        int[] counts = (int[]) at(settled, "now.cache.parts.counts");
        rows[2][4] = rows[1][0];
        counts[2] = 5;
        counts[1] = 0;
        DUE.is("main is within its units, protected is not", settled.sound(), 0);

        int[][] counters = {{0, 0}, {0, 63}, {1, 3}};
        for (int[] c : counters) {
            SketchCache above = some();
            ((int[][]) at(above, "now.cache.sketch.counters"))[c[0]][c[1]] = 16;
            DUE.is("a counter of 16", above.sound(), 0);
            SketchCache below = some();
            ((int[][]) at(below, "now.cache.sketch.counters"))[c[0]][c[1]] = -1;
            DUE.is("a counter of -1", below.sound(), 0);
        }
        for (int key = 0; key < 2; key++) {
            SketchCache forgetful = some();
            ((int[][]) at(forgetful, "now.cache.sketch.counters"))[0][5 * key] = 0;
            DUE.is("key " + key + " was added more often", forgetful.sound(), 0);
        }
    }

    /** Key 5 was added twice: once by the door, once by its counters. */
    private static SketchCache twice() {
        SketchCache x = new SketchCache(2, 10, 3);
        x.add(5);
        x.add(5);
        DUE.is("estimate", x.estimate(5), 2);
        return x;
    }

    private static void lower(String when, SketchCache x, int estimate) {
        DUE.is(when + ": the estimate is less than it was added", x.estimate(5), estimate);
        DUE.is(when + ": but not since then", x.sound(), 1);
        x.add(5);
        DUE.is(when + ": nor with one more", x.sound(), 1);
    }

    /** "since the latest aging (or the beginning, or a change of the rules 0 and 1, of places or of bits ..)". */
    private static void countedSince() {
        SketchCache place = twice();
        place.place(1, 5, 40);
        lower("another place", place, 1);
        for (int which = 0; which <= 1; which++) {
            SketchCache bit = twice();
            bit.door(which, 5, 120);
            lower("another bit", bit, 1);
        }
        SketchCache door = twice();
        door.rule(0, 0);
        lower("no door", door, 1);
        door.rule(0, 1);
        lower("the door again", door, 3);
        SketchCache careful = twice();
        careful.rule(1, 1);
        lower("careful", careful, 2);
        SketchCache aged = twice();
        aged.rule(2, 10);
        for (int i = 0; i < 8; i++) aged.add(6);
        lower("aged", aged, 0);
        SketchCache loaded = new SketchCache(2, 10, 3);
        loaded.save(0);
        loaded.add(5);
        loaded.add(5);
        loaded.load(0);
        lower("loaded", loaded, 0);
    }

    /** "or 15 if that is less": 15 counters without a door are enough for any number of adds. */
    private static void fifteenIsEnough() {
        for (int door = 0; door <= 1; door++) {
            SketchCache x = new SketchCache(2, 10, 3);
            x.rule(0, door);
            for (int times = 1; times <= 18; times++) {
                x.add(5);
                DUE.is("added " + times + " times", x.sound(), 1);
            }
            DUE.is("estimate", x.estimate(5), 15 + door);
            x.run(5, 0, 100);
            DUE.is("many times", x.sound(), 1);
        }
    }

    public static void main(String[] args) throws ReflectiveOperationException {
        broken();
        countedSince();
        fifteenIsEnough();
        DUE.end();
    }
}
