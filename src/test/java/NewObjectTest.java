/** Promise 1: a new object, and how the numbers for it are cut to their limits. */
public final class NewObjectTest {
    private static final Due DUE = new Due("NewObjectTest");

    private static void limits(int rows, int capacity, int window, int... due) {
        SketchCache x = new SketchCache(rows, capacity, window);
        String made = "new (" + rows + ", " + capacity + ", " + window + "): ";
        int d = due[0];
        int c = due[1];
        int w = due[2];
        DUE.is(made + "last row", x.counter(d - 1, 63), 0);
        DUE.is(made + "row behind it", x.counter(d, 0), SketchCache.BAD);
        DUE.is(made + "W", x.about(0), w);
        DUE.is(made + "P", x.about(1), 4 * (c - w) / 5);
        x.rule(4, 20);
        x.rule(5, 5);
        x.run(0, 1, 100);
        DUE.is(made + "W grows to C - 1", x.about(0), Math.min(c - 1, w + 20 * 20));
    }

    private static void rulesAtFirst() {
        int[] due = {1, 0, 200, 0, 0, 20};
        int[] told = {0, 1, 10, 2, 20, 5};
        SketchCache x = new SketchCache(1, 10, 2);
        for (int what = 0; what < due.length; what++) {
            DUE.is("rule " + what + " at first", x.rule(what, told[what]), due[what]);
            DUE.is("rule " + what + " told", x.rule(what, told[what]), told[what]);
        }
    }

    private static void nothingThere() {
        SketchCache x = new SketchCache(4, 10, 3);
        int[] about = {3, 5, 0, 0, 0, 0, 0, 0, 0, 0, 0, 1, 0, 0, 0, 0};
        for (int what = 0; what < about.length; what++) {
            DUE.is("about(" + what + ") at first", x.about(what), about[what]);
        }
        for (int key = 0; key < 100; key++) {
            DUE.is("where(" + key + ") at first", x.where(key), SketchCache.NONE);
            DUE.is("estimate(" + key + ") at first", x.estimate(key), 0);
            DUE.is("size(" + key + ", 1) at first", x.size(key, 1), 1);
        }
        for (int i = 0; i < 128; i++) {
            DUE.is("bit(" + i + ") at first", x.bit(i), 0);
            DUE.is("counter(" + i % 4 + ", " + i / 2 + ") at first", x.counter(i % 4, i / 2), 0);
        }
        DUE.is("trace(0) at first", x.trace(0), SketchCache.NONE);
        DUE.is("kept(0) at first", x.kept(0), SketchCache.NONE);
        DUE.is("load(0) at first", x.load(0), SketchCache.NONE);
        DUE.is("sound() at first", x.sound(), 1);
    }

    public static void main(String[] args) {
        limits(2, 10, 3, 2, 10, 3);
        limits(1, 4, 1, 1, 4, 1);
        limits(0, 3, 0, 1, 4, 1);
        limits(4, 200, 199, 4, 200, 199);
        limits(5, 201, 200, 4, 200, 199);
        limits(3, 10, 10, 3, 10, 9);
        limits(Integer.MIN_VALUE, Integer.MIN_VALUE, Integer.MIN_VALUE, 1, 4, 1);
        limits(Integer.MAX_VALUE, Integer.MAX_VALUE, Integer.MAX_VALUE, 4, 200, 199);
        rulesAtFirst();
        nothingThere();
        DUE.end();
    }
}
