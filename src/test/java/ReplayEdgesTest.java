import java.util.Arrays;

/** Term 4, the trace and the six policies: a test for each sentence that names an edge. */
public final class ReplayEdgesTest {
    private static final Due DUE = new Due("ReplayEdgesTest");
    private static final int NONE = SketchCache.NONE;

    private static SketchCache traced(int... keys) {
        SketchCache x = new SketchCache(1, 200, 10);
        for (int key : keys) x.access(key);
        return x;
    }

    private static int[] keys(int... keys) {
        return keys;
    }

    /** Replays all of these keys, and again, as each replay is "empty at first": the hits, and what was kept. */
    private static void all(int policy, int n, int[] keys, int hits, int... kept) {
        SketchCache x = traced(keys);
        for (int i = 0; i < 2; i++) {
            String when = Calls.text("policy " + policy + ", n " + n, keys);
            DUE.is(when, x.replay(policy, n, 0, keys.length), hits);
            DUE.kept(when, x, kept);
        }
    }

    /** "THE TRACE has the keys of the latest 300 accesses, from the earliest one on." */
    private static void latest300() {
        SketchCache x = traced();
        x.run(7, 0, 1);
        x.run(8, 0, 1);
        x.run(9, 0, 97);
        x.run(9, 0, 100);
        x.run(9, 0, 100);
        DUE.is("299 accesses", x.about(15) * 100 + x.trace(0), 29907);
        DUE.is("none behind them", x.trace(299), NONE);
        x.access(10);
        DUE.is("300 accesses", x.about(15) * 100 + x.trace(0), 30007);
        DUE.is("the latest", x.trace(299), 10);
        x.access(11);
        DUE.is("301 accesses: the earliest went", x.about(15) * 100 + x.trace(0), 30008);
        DUE.is("the latest", x.trace(298) * 100 + x.trace(299), 1011);
        DUE.is("none behind them", x.trace(300), NONE);
        x.access(12);
        DUE.is("302 accesses", x.trace(0) * 100 + x.trace(299), 912);
        DUE.is("accesses are counted on", x.about(8), 302);
    }

    /** Only accesses are in the trace, those of a key above C too. */
    private static void onlyAccesses() {
        SketchCache x = new SketchCache(1, 10, 3);
        x.add(1);
        x.remove(1);
        x.access(-1);
        x.run(0, 1, 0);
        DUE.is("none", x.about(15), 0);
        x.size(5, 11);
        DUE.is("a key above C", x.access(5), 0);
        DUE.is("one", x.about(15) * 10 + x.trace(0), 15);
        DUE.is("it can be kept by a replay, whatever its size", x.replay(0, 1, 0, 1) * 10 + x.kept(0), 5);
    }

    /** A trace that has wrapped around is replayed from its earliest key to its latest. */
    private static void wrappedAround() {
        SketchCache x = traced();
        for (int key = 1; key <= 4; key++) x.run(key, 0, key == 4 ? 50 : 100);
        for (int policy = 0; policy < 6; policy++) {
            String when = "policy " + policy;
            DUE.is(when + ", all", x.replay(policy, 1, 0, 300), 296);
            DUE.kept(when + ", all", x, 4);
            DUE.is(when + ", all", x.replay(policy, 30, 0, 300), 296);
            DUE.kept(when + ", all", x, 1, 2, 3, 4);
            DUE.is(when + ", up to where 2 begins", x.replay(policy, 2, 0, 50), 49);
            DUE.kept(when + ", up to where 2 begins", x, 1);
            DUE.is(when + ", the last 1 and the first 2", x.replay(policy, 2, 49, 51), 0);
            DUE.kept(when + ", the last 1 and the first 2", x, 1, 2);
            DUE.is(when + ", the latest one", x.replay(policy, 1, 299, 300), 0);
            DUE.kept(when + ", the latest one", x, 4);
        }
    }

    /** "if n are there already, one goes OUT": just n stay, for the least and the most n. */
    private static void justN() {
        int[] full = new int[31];
        int[] oneMore = new int[32];
        for (int i = 0; i < 30; i++) full[i] = i;
        for (int i = 0; i < 31; i++) oneMore[i] = i;
        full[30] = 0;
        oneMore[31] = 0;
        SketchCache x = traced(full);
        SketchCache y = traced(oneMore);
        for (int policy = 0; policy < 6; policy++) {
            String when = "policy " + policy;
            DUE.is(when + ": 30 keys of 30, and the first again", x.replay(policy, 30, 0, 31), 1);
            DUE.is(when + ": the last of 30", x.kept(29), 29);
            DUE.is(when + ": the first of 29 went", x.replay(policy, 29, 0, 31), policy == 4 ? 1 : 0);
            // Policy 4 alone knows that 0 is asked for again.
            DUE.is(when + ": 31 keys of 30, and the first again", y.replay(policy, 30, 0, 32), policy == 4 ? 1 : 0);
            DUE.is(when + ": there are 30", y.kept(29), 30);
            DUE.is(when + ": there are 30", y.kept(30), NONE);
            all(policy, 1, keys(5), 0, 5);
            all(policy, 1, keys(5, 5), 1, 5);
            all(policy, 1, keys(5, 5, 6), 1, 6);
            all(policy, 1, keys(5, 5, 6, 5), 1, 5);
            all(policy, 2, keys(0, 99, 0, 99), 2, 0, 99);
        }
    }

    /** "POLICY 0: the one used longest ago. 1: the one that came first." */
    private static void byUseOrByComing() {
        all(0, 2, keys(0, 1, 2), 0, 1, 2);
        all(1, 2, keys(0, 1, 2), 0, 1, 2);
        all(0, 2, keys(0, 1, 0, 2), 1, 0, 2);
        all(1, 2, keys(0, 1, 0, 2), 1, 1, 2);
        all(0, 2, keys(0, 1, 0, 2, 1, 3), 1, 1, 3);
        all(1, 2, keys(0, 1, 0, 2, 1, 3), 2, 2, 3);
        all(1, 2, keys(0, 1, 2, 0, 3), 0, 0, 3);
    }

    /** "2: .. a HAND at seat 0": it goes on from the last seat to the first. */
    private static void handWrapsAround() {
        int[] asked = {0, 1, 2, 3, 4, 5, 6};
        int[][] due = {{0, 1, 2}, {1, 2, 3}, {2, 3, 4}, {3, 4, 5}, {4, 5, 6}};
        for (int i = 0; i < due.length; i++) all(2, 3, Arrays.copyOf(asked, 3 + i), 0, due[i]);
    }

    /** "a marked key is not marked any more, and the hand goes on by one", for all of them and for one. */
    private static void marks() {
        all(2, 2, keys(0, 0, 1, 2), 1, 0, 2);
        all(2, 2, keys(0, 1, 0, 2), 1, 0, 2);
        all(2, 2, keys(0, 1, 1, 0, 2), 2, 1, 2);
        all(2, 3, keys(0, 1, 2, 0, 3), 1, 0, 2, 3);
        all(2, 3, keys(0, 1, 2, 0, 3, 4), 1, 0, 3, 4);
        all(2, 3, keys(0, 1, 2, 0, 3, 4, 5), 1, 3, 4, 5);
        all(2, 3, keys(0, 1, 2, 0, 3, 0, 4, 5), 2, 0, 4, 5);
        int[] allMarked = {0, 1, 2, 0, 1, 2, 3, 4, 5, 6};
        all(2, 3, Arrays.copyOf(allMarked, 7), 3, 1, 2, 3);
        all(2, 3, Arrays.copyOf(allMarked, 8), 3, 2, 3, 4);
        all(2, 3, Arrays.copyOf(allMarked, 9), 3, 3, 4, 5);
        all(2, 3, allMarked, 3, 4, 5, 6);
        // Who comes is unmarked, also on the seat of a key that was marked again since.
        all(2, 2, keys(0, 1, 0, 1, 2, 1, 3, 4), 3, 3, 4);
        all(2, 1, keys(0, 0, 0, 1, 2), 2, 2);
    }

    /** "3: .. of several the one used longest ago", and "since it came (coming is one)". */
    private static void fewestUses() {
        all(3, 2, keys(0, 1, 2), 0, 1, 2);
        all(3, 2, keys(0, 0, 1, 2), 1, 0, 2);
        all(3, 2, keys(1, 0, 0, 1, 2), 2, 1, 2);
        all(3, 2, keys(0, 1, 1, 0, 2), 2, 0, 2);
        all(3, 2, keys(0, 0, 1, 1, 1, 2, 0, 2), 3, 1, 2);
        all(3, 2, keys(0, 0, 1, 2, 2, 3), 2, 2, 3);
    }

    /** "4: .. asked for again latest in the rest of the part; one that is not any more before all others". */
    private static void askedLatest() {
        int[] asked = {0, 1, 2, 0, 1};
        all(4, 2, Arrays.copyOf(asked, 3), 0, 1, 2);
        all(4, 2, Arrays.copyOf(asked, 4), 1, 0, 2);
        all(4, 2, asked, 1, 1, 2);
        all(4, 2, keys(5, 1, 2, 1), 1, 1, 2);
        all(4, 2, keys(1, 0, 2, 1, 0), 1, 0, 2);
        all(4, 2, keys(1, 5, 2, 5, 1), 1, 1, 5);
        all(4, 2, keys(5, 1, 2, 1, 5), 1, 2, 5);
        SketchCache x = traced(0, 1, 2, 0, 1);
        DUE.is("the rest of the part, not of the trace", x.replay(4, 2, 1, 4), 0);
        DUE.kept("1 to 4", x, 0, 2);
        DUE.is("and not before it", x.replay(4, 2, 2, 5), 0);
        DUE.kept("2 to 5", x, 1, 2);
    }

    /** "of several such the least key", not the one that came or was used first. */
    private static void leastKey() {
        all(4, 2, keys(9, 3, 7), 0, 7, 9);
        all(4, 2, keys(3, 9, 7), 0, 7, 9);
        all(4, 3, keys(0, 99, 50, 1), 0, 1, 50, 99);
        all(4, 3, keys(99, 50, 0, 1, 2), 0, 2, 50, 99);
    }

    /** "5: .. if T and V have n keys together": T's first goes for good if T is full, V's first if not. */
    private static void goneForGood() {
        all(5, 2, keys(0, 1, 2, 1, 0), 1, 0, 1);
        all(5, 2, keys(0, 0, 1, 2, 3, 1), 1, 0, 1);
        all(5, 1, keys(0, 1, 0), 0, 0);
    }

    /** "if they have fewer, and all four have n or more: if they have 2 n, X's first goes for good". */
    private static void allFourAreFull() {
        all(5, 2, keys(0, 1, 1, 0, 2, 3, 3, 4, 1, 2), 3, 2, 3);
        all(5, 2, keys(0, 0, 1, 1, 2, 3, 0, 4), 2, 0, 4);
        all(5, 2, keys(0, 1, 1, 2, 2, 0, 3, 4, 1, 3), 2, 1, 3);
    }

    /** "(the keys of X by those of V, cut off, 1 at least), n at most". */
    private static void goalGrows() {
        all(5, 2, keys(0, 0, 1, 2, 1), 1, 1, 2);
        all(5, 3, keys(0, 0, 1, 2, 3, 1, 4, 4, 5, 2, 3, 1), 3, 1, 3, 5);
        all(5, 5, keys(0, 0, 1, 2, 3, 3, 4, 1, 5, 6, 2, 7, 5, 8, 9, 4, 8, 3), 4, 3, 4, 5, 8, 9);
        all(5, 4, keys(0, 1, 1, 0, 2, 3, 4, 5, 3, 6, 4, 7, 2, 3), 2, 2, 3, 6, 7);
        all(5, 3, keys(0, 0, 1, 2, 2, 3, 3, 4, 5, 1, 4, 0), 3, 0, 4, 5);
        all(5, 3, keys(0, 0, 1, 2, 3, 3, 1, 4, 5, 2, 5, 0), 3, 0, 4, 5);
        all(5, 4, keys(0, 1, 1, 2, 0, 3, 4, 2), 2, 0, 1, 2, 4);
    }

    /** "(the keys of V by those of X, cut off, 1 at least), 0 at least". */
    private static void goalShrinks() {
        all(5, 2, keys(0, 0, 1, 2, 1, 0, 3, 4), 1, 0, 4);
        all(5, 5, keys(0, 0, 1, 2, 3, 4, 5, 1, 2, 6, 7, 0, 5), 1, 0, 1, 2, 5, 7);
        all(5, 6, keys(0, 0, 1, 1, 2, 3, 4, 3, 5, 6, 2, 7, 4, 8, 9, 10, 0, 6), 3, 0, 2, 4, 6, 9, 10);
        all(5, 4, keys(0, 0, 1, 2, 3, 4, 1, 2, 0, 5), 1, 0, 2, 4, 5);
        all(5, 4, keys(0, 1, 0, 2, 3, 4, 1, 2, 0, 5), 1, 0, 2, 4, 5);
        all(5, 2, keys(0, 0, 1, 1, 2, 0, 3, 2), 2, 2, 3);
        all(5, 2, keys(0, 0, 1, 1, 2, 0, 3, 4), 2, 0, 4);
    }

    /**
     * "if T has some, and more than g, or just g and the key was in X". That U has none while T is
     * within the goal cannot be: U has none only if T has n, and then room is made just behind a goal that shrank.
     */
    private static void justTheGoal() {
        all(5, 3, keys(0, 0, 1, 2, 3, 1, 2, 0), 1, 0, 1, 2);
        all(5, 2, keys(0, 1, 1, 2, 0), 1, 0, 2);
        // A new key was not in X, so that T may have just the goal.
        all(5, 2, keys(0, 1, 0, 2, 1, 3), 1, 2, 3);
        all(5, 2, keys(0, 1, 1, 0, 2, 3, 1, 2, 4, 5), 2, 4, 5);
        // T has none, which is just the goal of 0, and the key was in X: U's first goes.
        all(5, 2, keys(0, 0, 1, 1, 2, 2, 0), 3, 0, 2);
    }

    public static void main(String[] args) {
        latest300();
        onlyAccesses();
        wrappedAround();
        justN();
        byUseOrByComing();
        handWrapsAround();
        marks();
        fewestUses();
        askedLatest();
        leastKey();
        goneForGood();
        allFourAreFull();
        goalGrows();
        goalShrinks();
        justTheGoal();
        DUE.end();
    }
}
