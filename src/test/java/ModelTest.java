import java.util.ArrayList;
import java.util.Arrays;
import java.util.List;
import java.util.Random;

/** Promises 1 to 21 on many runs of mixed calls, against the Model; the seeds are fixed. */
public final class ModelTest {
    private static final String[] NAMES = {
        "place", "door", "rule", "size", "access", "run", "add", "estimate", "counter", "bit", "remove",
        "where", "key", "about", "trace", "replay", "kept", "save", "load", "sound"};
    private static final int[] OFTEN = {2, 2, 4, 6, 40, 10, 4, 3, 2, 2, 3, 3, 4, 6, 2, 8, 3, 2, 2, 2};
    private static final int SAVE = 17;
    private static final int LOAD = 18;

    private final int[] made;
    private final SketchCache real;
    private Model model;
    // What the model saved is the calls that led there: a load does them all again.
    private List<int[]> log = new ArrayList<>();
    private final List<List<int[]>> saved = new ArrayList<>();
    private final int[] savedAccesses = new int[4];

    private ModelTest(int... made) {
        this.made = made;
        real = new SketchCache(made[0], made[1], made[2]);
        model = new Model(made[0], made[1], made[2]);
        for (int i = 0; i < 4; i++) saved.add(null);
    }

    /** The call of that number, which stands before its own numbers. */
    private static int ask(Object x, int[] call) throws ReflectiveOperationException {
        return Calls.ask(x, NAMES[call[0]], Arrays.copyOfRange(call, 1, call.length));
    }

    private int askModel(int[] c) throws ReflectiveOperationException {
        if (c[0] != SAVE && c[0] != LOAD) {
            log.add(c);
            return ask(model, c);
        }
        if (c[1] < 0 || c[1] > 3) return SketchCache.BAD;
        if (c[0] == SAVE) {
            saved.set(c[1], new ArrayList<>(log));
            savedAccesses[c[1]] = model.about(8);
            return model.about(8);
        }
        if (saved.get(c[1]) == null) return SketchCache.NONE;
        Model again = new Model(made[0], made[1], made[2]);
        log = new ArrayList<>(saved.get(c[1]));
        for (int[] earlier : log) ask(again, earlier);
        again.takeKeptOf(model);
        model = again;
        return savedAccesses[c[1]];
    }

    /** A number within the limits, or now and then one just outside. */
    private static int near(Random random, int least, int most) {
        if (random.nextInt(40) == 0) return random.nextBoolean() ? least - 1 : most + 1;
        return least + random.nextInt(most - least + 1);
    }

    private static int someKey(Random random, int keys) {
        if (random.nextInt(60) == 0) return near(random, 0, 99);
        // The smaller of two makes some keys more wanted than others.
        return Math.min(random.nextInt(keys), random.nextInt(keys));
    }

    private int[] someCall(Random random, int keys) {
        int sum = 0;
        for (int often : OFTEN) sum += often;
        int pick = random.nextInt(sum);
        int what = 0;
        while (pick >= OFTEN[what]) pick -= OFTEN[what++];
        int k = someKey(random, keys);
        switch (what) {
            case 0: return new int[] {what, near(random, 0, 3), k, near(random, 0, 63)};
            case 1: return new int[] {what, near(random, 0, 1), k, near(random, 0, 127)};
            case 2: return someRule(random);
            case 3: return new int[] {what, k, random.nextBoolean() ? near(random, 1, 5) : near(random, 1, 20)};
            case 5: return new int[] {what, k, random.nextInt(3) == 0 ? near(random, 0, 99) : near(random, 0, 3),
                random.nextInt(5) == 0 ? near(random, 1, 100) : near(random, 1, 12)};
            case 8: return new int[] {what, near(random, 0, 3), near(random, 0, 63)};
            case 9: return new int[] {what, near(random, 0, 127)};
            case 12: return new int[] {what, near(random, 0, 2), near(random, 0, 9)};
            case 13: return new int[] {what, near(random, 0, 15)};
            case 14: return new int[] {what, near(random, 0, 299)};
            case 15: return someReplay(random);
            case 16: return new int[] {what, near(random, 0, 9)};
            case SAVE: case LOAD: return new int[] {what, near(random, 0, 3)};
            default: return new int[] {what, k};
        }
    }

    private static int[] someRule(Random random) {
        int what = near(random, 0, 5);
        int v = random.nextInt(2);
        if (what == 2) v = random.nextBoolean() ? near(random, 10, 60) : near(random, 10, 1000);
        if (what == 3) v = near(random, 0, 2);
        if (what == 4) v = random.nextBoolean() ? near(random, 0, 3) : near(random, 0, 20);
        if (what == 5) v = random.nextInt(4) == 0 ? near(random, 5, 500) : near(random, 5, 15);
        return new int[] {2, what, v};
    }

    private int[] someReplay(Random random) {
        int length = real.about(15);
        int from = random.nextBoolean() ? 0 : random.nextInt(length + 1);
        int to = random.nextBoolean() ? length : near(random, from, length);
        int n = random.nextBoolean() ? near(random, 1, 6) : near(random, 1, 30);
        return new int[] {15, near(random, 0, 5), n, from, to};
    }

    /** Whether all that can be asked for without a change is the same. */
    private void compareAll(Due due, String when) {
        for (int what = 0; what <= 15; what++) {
            due.is(when + " about(" + what + ")", real.about(what), model.about(what));
        }
        for (int k = 0; k < 100; k++) {
            due.is(when + " where(" + k + ")", real.where(k), model.where(k));
            due.is(when + " estimate(" + k + ")", real.estimate(k), model.estimate(k));
        }
        for (int p = 0; p < 3; p++) {
            for (int i = 0; i < 100; i++) {
                due.is(when + " key(" + p + ", " + i + ")", real.key(p, i), model.key(p, i));
            }
        }
        for (int i = 0; i < 30; i++) due.is(when + " kept(" + i + ")", real.kept(i), model.kept(i));
    }

    public static void main(String[] args) throws ReflectiveOperationException {
        Due due = new Due("ModelTest");
        for (int seed = 0; seed < 400; seed++) {
            Random random = new Random(seed);
            int capacity = random.nextInt(3) == 0 ? random.nextInt(210) : 4 + random.nextInt(30);
            int window = random.nextBoolean() ? random.nextInt(6) : random.nextInt(210);
            ModelTest test = new ModelTest(random.nextInt(6), capacity, window);
            int keys = 3 + random.nextInt(random.nextBoolean() ? 97 : 20);
            for (int i = 0; i < 512; i++) {
                int[] call = test.someCall(random, keys);
                String when = "seed " + seed + ", call " + i + ": " + Calls.text(NAMES[call[0]], Arrays.copyOfRange(call, 1, call.length));
                due.is(when, ask(test.real, call), test.askModel(call));
                if (i % 16 == 15) test.compareAll(due, when + ", then");
            }
        }
        due.end();
    }
}
