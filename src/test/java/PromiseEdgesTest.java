/**
 * Promises 1 to 21, a test for each: the last numbers that are right, the first that are not,
 * and that a call which is BAD or REFUSED changes nothing at all.
 */
public final class PromiseEdgesTest {
    private static final Due DUE = new Due("PromiseEdgesTest");
    private static final int BAD = SketchCache.BAD;
    private static final int NONE = SketchCache.NONE;
    private static final int REFUSED = SketchCache.REFUSED;
    private static final int LEAST = Integer.MIN_VALUE;
    private static final int MOST = Integer.MAX_VALUE;
    private static final int[] ROW = {0, 1};
    private static final int[] KEY = {0, 99};
    private static final String RICH = Calls.whole(rich());

    /** Two rows, something in each part, a part of a period, a trace of 37 keys, and something kept. */
    private static SketchCache rich() {
        SketchCache x = new SketchCache(2, 12, 3);
        x.rule(4, 1);
        x.rule(5, 30);
        x.size(7, 3);
        x.run(0, 1, 12);
        x.run(0, 1, 5);
        x.run(20, 7, 20);
        x.replay(0, 3, 0, 10);
        return x;
    }

    private static void unchanged(String call, SketchCache x) {
        DUE.is(call + " left all as it was", Calls.whole(x).equals(RICH) ? 1 : 0, 1);
    }

    private static void bad(String name, int... numbers) throws ReflectiveOperationException {
        SketchCache x = rich();
        String call = Calls.text(name, numbers);
        DUE.is(call, Calls.ask(x, name, numbers), BAD);
        unchanged(call, x);
    }

    private static void notBad(String name, int... numbers) throws ReflectiveOperationException {
        int answer = Calls.ask(rich(), name, numbers);
        DUE.is(Calls.text(name, numbers) + " is " + answer + ", so not BAD", answer == BAD ? 0 : 1, 1);
    }

    /** At each corner of the limits the call is right, and one step outside of them it is BAD. */
    private static void limits(String name, int[]... limits) throws ReflectiveOperationException {
        int corners = 1 << limits.length;
        for (int corner = 0; corner < corners; corner++) {
            int[] numbers = new int[limits.length];
            for (int p = 0; p < limits.length; p++) numbers[p] = limits[p][corner >> p & 1];
            notBad(name, numbers);
            for (int p = 0; p < limits.length; p++) {
                int[] below = numbers.clone();
                int[] above = numbers.clone();
                boolean least = (corner >> p & 1) == 0;
                below[p] = least ? limits[p][0] - 1 : LEAST;
                above[p] = least ? MOST : limits[p][1] + 1;
                bad(name, below);
                bad(name, above);
            }
        }
    }

    private static void newObject() {
        int[][] rows = {{LEAST, 1}, {-1, 1}, {0, 1}, {1, 1}, {2, 2}, {4, 4}, {5, 4}, {MOST, 4}};
        for (int[] r : rows) {
            SketchCache x = new SketchCache(r[0], 10, 3);
            DUE.is("rows " + r[0] + ": the last", x.counter(r[1] - 1, 0), 0);
            DUE.is("rows " + r[0] + ": none behind it", x.counter(r[1], 0), BAD);
        }
        // C shows as the largest window that it leaves.
        int[][] capacities = {{LEAST, 4}, {3, 4}, {4, 4}, {5, 5}, {199, 199}, {200, 200}, {201, 200}, {MOST, 200}};
        for (int[] c : capacities) {
            DUE.is("C of " + c[0], new SketchCache(1, c[0], MOST).about(0), c[1] - 1);
        }
        int[][] windows = {{LEAST, 1}, {0, 1}, {1, 1}, {2, 2}, {8, 8}, {9, 9}, {10, 9}, {MOST, 9}};
        for (int[] w : windows) {
            DUE.is("W of " + w[0], new SketchCache(1, 10, w[0]).about(0), w[1]);
        }
        DUE.is("W above a C that was cut", new SketchCache(1, 0, 4).about(0), 3);
        DUE.is("W within a C that was cut", new SketchCache(1, 1000, 200).about(0), 199);
    }

    private static void place() throws ReflectiveOperationException {
        limits("place", ROW, KEY, new int[] {0, 63});
        SketchCache x = rich();
        DUE.is("key 99 in row 1", x.place(1, 99, 63), (99 * 7 + 11) % 64);
        DUE.is("what was told", x.place(1, 99, 0), 63);
        DUE.is("what was told", x.place(1, 99, 0), 0);
        DUE.is("the other row is its own", x.place(0, 99, 0), 99 * 5 % 64);
        for (int rows = 1; rows <= 4; rows++) {
            SketchCache y = new SketchCache(rows, 10, 3);
            DUE.is("the last of " + rows + " rows", y.place(rows - 1, 0, 1), 11 * (rows - 1));
            DUE.is("the row behind the last of " + rows, y.place(rows, 0, 1), BAD);
        }
    }

    private static void door() throws ReflectiveOperationException {
        limits("door", new int[] {0, 1}, KEY, new int[] {0, 127});
        SketchCache x = rich();
        DUE.is("first bit of key 99", x.door(0, 99, 127), 99);
        DUE.is("second bit of key 99", x.door(1, 99, 0), 47);
        DUE.is("first bit, told", x.door(0, 99, 0), 127);
        DUE.is("second bit, told", x.door(1, 99, 127), 0);
    }

    private static void rule() throws ReflectiveOperationException {
        int[][] limits = {{0, 1, 1}, {0, 1, 0}, {10, 1000, 200}, {0, 2, 0}, {0, 20, 1}, {5, 500, 30}};
        for (int what = 0; what < limits.length; what++) {
            int least = limits[what][0];
            int most = limits[what][1];
            for (int wrong : new int[] {LEAST, least - 1, most + 1, MOST}) bad("rule", what, wrong);
            SketchCache x = rich();
            DUE.is("rule " + what + ": what it was", x.rule(what, least), limits[what][2]);
            DUE.is("rule " + what + ": the least", x.rule(what, most), least);
            DUE.is("rule " + what + ": the most", x.rule(what, most), most);
        }
        for (int what : new int[] {LEAST, -1, 6, MOST}) {
            for (int v : new int[] {0, 1, 5, 10}) bad("rule", what, v);
        }
    }

    private static void size() throws ReflectiveOperationException {
        DUE.is("key 50 is not there", rich().where(50), NONE);
        for (int units : new int[] {LEAST, 0, 21, MOST}) bad("size", 50, units);
        for (int key : new int[] {LEAST, -1, 100, MOST}) {
            bad("size", key, 1);
            bad("size", key, 20);
        }
        SketchCache x = rich();
        DUE.is("1 at first", x.size(50, 20), 1);
        DUE.is("the most", x.size(50, 1), 20);
        DUE.is("the least", x.size(50, 2), 1);
        DUE.is("key 99", x.size(99, 20), 1);
    }

    private static void sizeRefused() {
        for (int part = 0; part < 3; part++) {
            int key = rich().key(part, 0);
            DUE.is("there is one in part " + part, key >= 0 ? 1 : 0, 1);
            for (int units : new int[] {1, 2, 20}) {
                SketchCache x = rich();
                DUE.is("size of key " + key + " in part " + part, x.size(key, units), REFUSED);
                unchanged("a refused size", x);
            }
            SketchCache wrong = rich();
            DUE.is("a wrong number is BAD, whether it is there or not", wrong.size(key, 21), BAD);
            unchanged("a wrong size", wrong);
            SketchCache gone = rich();
            gone.remove(key);
            DUE.is("once it was removed", gone.size(key, 20), 1);
        }
        SketchCache out = new SketchCache(1, 4, 1);
        out.run(0, 1, 5);
        DUE.is("key 3 went out", out.where(3), NONE);
        DUE.is("the size of a key that went out", out.size(3, 4), 1);
    }

    private static void access() throws ReflectiveOperationException {
        for (int key : new int[] {LEAST, -1, 100, MOST}) bad("access", key);
        SketchCache x = new SketchCache(1, 10, 3);
        DUE.is("the least key", x.access(0), 1);
        DUE.is("the most key", x.access(99), 1);
        DUE.is("they are in the trace", x.trace(0) * 100 + x.trace(1), 99);
    }

    private static void run() throws ReflectiveOperationException {
        limits("run", KEY, KEY, new int[] {1, 100});
        SketchCache x = new SketchCache(1, 10, 3);
        DUE.is("one access", x.run(99, 99, 1), 0);
        DUE.is("accesses", x.about(8), 1);
        DUE.is("99, then 198 modulo 100", x.run(99, 99, 2), 1);
        DUE.is("the latest key", x.trace(2), 98);
        x.run(99, 1, 2);
        DUE.is("99, then 100 modulo 100", x.trace(4), 0);
        DUE.is("a step of 0", x.run(5, 0, 100), 99);
        DUE.is("accesses", x.about(8), 105);
        DUE.is("the hits of runs", x.about(9), 101);
    }

    private static void add() throws ReflectiveOperationException {
        for (int key : new int[] {LEAST, -1, 100, MOST}) bad("add", key);
        SketchCache x = new SketchCache(1, 10, 3);
        DUE.is("the least key", x.add(0), 1);
        DUE.is("the most key", x.add(99), 1);
        DUE.is("its estimate behind the aging that it brings", fillTo(199).add(0), 7);
        int[] none = {2, 3, 4, 5, 8, 9, 10, 13, 15};
        for (int what : none) DUE.is("the sketch alone: about(" + what + ")", x.about(what), 0);
    }

    /** Key 0 was added so often. */
    private static SketchCache fillTo(int times) {
        SketchCache x = new SketchCache(1, 10, 3);
        for (int i = 0; i < times; i++) x.add(0);
        return x;
    }

    private static void estimate() throws ReflectiveOperationException {
        limits("estimate", KEY);
        DUE.is("nothing was added", new SketchCache(4, 10, 3).estimate(99), 0);
        DUE.is("the most that an estimate can be", fillTo(100).estimate(0), 16);
    }

    private static void counter() throws ReflectiveOperationException {
        limits("counter", ROW, new int[] {0, 63});
        SketchCache x = new SketchCache(1, 10, 3);
        x.rule(0, 0);
        x.place(0, 1, 63);
        x.place(0, 2, 0);
        x.add(1);
        x.add(2);
        x.add(2);
        DUE.is("the last counter", x.counter(0, 63), 1);
        DUE.is("the first counter", x.counter(0, 0), 2);
    }

    private static void bit() throws ReflectiveOperationException {
        limits("bit", new int[] {0, 127});
        SketchCache x = new SketchCache(1, 10, 3);
        x.door(0, 1, 127);
        x.door(1, 1, 0);
        x.add(1);
        DUE.is("the last bit", x.bit(127), 1);
        DUE.is("the first bit", x.bit(0), 1);
        DUE.is("the bit between", x.bit(64), 0);
    }

    private static void remove() throws ReflectiveOperationException {
        limits("remove", KEY);
        SketchCache none = rich();
        DUE.is("a key that is not there", none.remove(50), NONE);
        unchanged("removing what is not there", none);
        for (int part = 0; part < 3; part++) {
            SketchCache x = rich();
            int key = x.key(part, 0);
            int outs = x.about(10);
            int there = x.about(5);
            DUE.is("remove of part " + part, x.remove(key), part);
            DUE.is("and again", x.remove(key), NONE);
            DUE.is("it does not count as out", x.about(10), outs);
            DUE.is("keys that are there", x.about(5), there - 1);
        }
        SketchCache single = new SketchCache(1, 10, 3);
        single.access(99);
        DUE.is("the only key", single.remove(99), 0);
        DUE.part("then the window is empty", single, 0);
        DUE.is("units", single.about(2), 0);
    }

    private static void where() throws ReflectiveOperationException {
        limits("where", KEY);
        SketchCache x = rich();
        for (int part = 0; part < 3; part++) DUE.is("where", x.where(x.key(part, 0)), part);
        DUE.is("not there", x.where(50), NONE);
    }

    private static void key() throws ReflectiveOperationException {
        for (int part : new int[] {LEAST, -1, 3, MOST}) {
            for (int i : new int[] {LEAST, -1, 0, MOST}) bad("key", part, i);
        }
        SketchCache x = rich();
        for (int part = 0; part < 3; part++) {
            int count = 0;
            while (x.key(part, count) != NONE) count++;
            DUE.is("the last of part " + part, x.where(x.key(part, count - 1)), part);
            for (int i : new int[] {LEAST, -1, count, 99, 100, MOST}) {
                DUE.is("key(" + part + ", " + i + ")", x.key(part, i), NONE);
            }
            DUE.part("an empty part", new SketchCache(1, 10, 3), part);
        }
    }

    private static void about() throws ReflectiveOperationException {
        limits("about", new int[] {0, 15});
    }

    private static void trace() {
        SketchCache x = rich();
        DUE.is("its keys", x.about(15), 37);
        DUE.is("the earliest", x.trace(0), 0);
        DUE.is("the latest", x.trace(36), (20 + 19 * 7) % 100);
        for (int i : new int[] {LEAST, -1, 37, 299, 300, MOST}) DUE.is("trace(" + i + ")", x.trace(i), NONE);
        DUE.is("an empty trace", new SketchCache(1, 10, 3).trace(0), NONE);
    }

    private static void replay() throws ReflectiveOperationException {
        for (int policy = 0; policy < 6; policy++) {
            notBad("replay", policy, 1, 0, 37);
            notBad("replay", policy, 30, 0, 37);
            for (int n : new int[] {LEAST, 0, 31, MOST}) bad("replay", policy, n, 0, 37);
        }
        for (int policy : new int[] {LEAST, -1, 6, MOST}) bad("replay", policy, 1, 0, 37);
        for (int from : new int[] {LEAST, -1, 38, MOST}) bad("replay", 0, 1, from, 37);
        for (int to : new int[] {LEAST, -1, 38, MOST}) bad("replay", 0, 1, 0, to);
        bad("replay", 0, 1, 1, 0);
        bad("replay", 0, 1, 37, 36);
        bad("replay", 0, 1, 38, 38);
        bad("replay", 0, 1, LEAST, LEAST);
        bad("replay", 0, 1, MOST, MOST);
        bad("replay", 0, 1, LEAST, MOST);
        bad("replay", 0, 1, MOST, LEAST);
        for (int policy = 0; policy < 6; policy++) {
            for (int at : new int[] {0, 20, 37}) {
                SketchCache x = rich();
                DUE.is("from " + at + " to " + at, x.replay(policy, 1, at, at), 0);
                DUE.kept("nothing", x);
            }
            SketchCache last = rich();
            DUE.is("the latest key alone", last.replay(policy, 1, 36, 37), 0);
            DUE.kept("the latest key alone", last, 53);
            SketchCache empty = new SketchCache(1, 10, 3);
            DUE.is("of an empty trace", empty.replay(policy, 30, 0, 0), 0);
            DUE.is("more than an empty trace has", empty.replay(policy, 30, 0, 1), BAD);
        }
    }

    private static void kept() {
        SketchCache x = new SketchCache(1, 10, 3);
        DUE.kept("before any replay", x);
        x.run(3, 96, 5);
        DUE.is("3, 99, 95, 91, 87", x.replay(1, 30, 0, 5), 0);
        DUE.kept("by their numbers, not as they came", x, 3, 87, 91, 95, 99);
        DUE.is("a BAD one", x.replay(1, 31, 0, 5), BAD);
        DUE.kept("the latest that was not BAD", x, 3, 87, 91, 95, 99);
        for (int i : new int[] {LEAST, -1, 5, 29, 30, MOST}) DUE.is("kept(" + i + ")", x.kept(i), NONE);
        x.access(50);
        x.remove(3);
        DUE.kept("the cache's own keys do not matter", x, 3, 87, 91, 95, 99);
        DUE.is("none", x.replay(1, 30, 2, 2), 0);
        DUE.kept("a replay of nothing is one, too", x);
        x.run(0, 1, 30);
        x.replay(0, 30, 6, 36);
        DUE.is("the last of 30", x.kept(29), 29);
        DUE.is("none behind it", x.kept(30), NONE);
    }

    private static void save() throws ReflectiveOperationException {
        limits("save", new int[] {0, 3});
        SketchCache x = new SketchCache(1, 10, 3);
        DUE.is("no accesses", x.save(0), 0);
        x.access(1);
        DUE.is("one access", x.save(3), 1);
        x.access(2);
        DUE.is("over what was saved", x.save(0), 2);
        DUE.is("the later one", x.load(0), 2);
        DUE.is("the other place is its own", x.load(3), 1);
        SketchCache y = rich();
        y.save(1);
        unchanged("a save", y);
    }

    private static void load() throws ReflectiveOperationException {
        for (int place : new int[] {LEAST, -1, 4, MOST}) bad("load", place);
        for (int place = 0; place < 4; place++) {
            SketchCache x = rich();
            x.save((place + 1) % 4);
            DUE.is("nothing was saved in " + place, x.load(place), NONE);
            unchanged("a load of nothing", x);
        }
        SketchCache fresh = new SketchCache(2, 12, 3);
        String due = Calls.whole(new SketchCache(2, 12, 3));
        fresh.save(2);
        fresh.rule(4, 5);
        fresh.run(0, 1, 100);
        DUE.is("what was saved before any access is 0 accesses, not NONE", fresh.load(2), 0);
        DUE.is("a new object is there again", Calls.whole(fresh).equals(due) ? 1 : 0, 1);
        DUE.is("it stays saved", fresh.load(2), 0);
        DUE.is("a new object is there again", Calls.whole(fresh).equals(due) ? 1 : 0, 1);
    }

    private static void loadLeavesOtherPlaces() {
        SketchCache x = new SketchCache(1, 10, 3);
        x.save(0);
        x.access(1);
        x.save(1);
        x.replay(0, 1, 0, 1);
        DUE.is("back to the first", x.load(0), 0);
        DUE.is("what was saved since is saved", x.load(1), 1);
        DUE.is("and back", x.load(0), 0);
        DUE.kept("what was kept is as it was", x, 1);
        DUE.is("though the trace is empty", x.about(15), 0);
    }

    private static void sound() {
        DUE.is("a new object", new SketchCache(0, 0, 0).sound(), 1);
        SketchCache x = rich();
        DUE.is("sound", x.sound(), 1);
        unchanged("asking", x);
        DUE.is("a counter above 15 would be needed, 15 is enough", fillTo(40).sound(), 1);
        SketchCache careful = new SketchCache(4, 10, 3);
        careful.rule(1, 1);
        careful.run(0, 1, 100);
        careful.run(0, 0, 40);
        DUE.is("many keys in a careful sketch", careful.sound(), 1);
    }

    public static void main(String[] args) throws ReflectiveOperationException {
        newObject();
        place();
        door();
        rule();
        size();
        sizeRefused();
        access();
        run();
        add();
        estimate();
        counter();
        bit();
        remove();
        where();
        key();
        about();
        trace();
        replay();
        kept();
        save();
        load();
        loadLeavesOtherPlaces();
        sound();
        DUE.end();
    }
}
