/** Promises 16, 17 and 18: the trace, and what other policies make of it. */
public final class ReplayTest {
    private static final Due DUE = new Due("ReplayTest");
    private static final int BAD = SketchCache.BAD;
    private static final int NONE = SketchCache.NONE;

    private static SketchCache traced(int... keys) {
        SketchCache x = new SketchCache(1, 200, 10);
        for (int key : keys) {
            x.access(key);
        }
        return x;
    }

    /** Replays the first so many keys, and looks at the hits and at what was kept. */
    private static void first(SketchCache x, int policy, int n, int to, int hits, int... kept) {
        String when = "replay(" + policy + ", " + n + ", 0, " + to + ")";
        DUE.is(when, x.replay(policy, n, 0, to), hits);
        DUE.kept(when, x, kept);
    }

    private static void traces() {
        SketchCache x = traced(5, 7, 5);
        DUE.is("trace(0)", x.trace(0), 5);
        DUE.is("trace(1)", x.trace(1), 7);
        DUE.is("trace(2)", x.trace(2), 5);
        DUE.is("trace(3)", x.trace(3), NONE);
        DUE.is("trace(-1)", x.trace(-1), NONE);
        x.run(0, 1, 100);
        x.run(0, 1, 100);
        x.run(0, 1, 97);
        DUE.is("300 accesses", x.about(15), 300);
        DUE.is("the earliest of 300", x.trace(0), 5);
        x.access(33);
        DUE.is("301 accesses", x.about(15), 300);
        DUE.is("the earliest one went", x.trace(0), 7);
        DUE.is("the latest one", x.trace(299), 33);
        DUE.is("behind it", x.trace(300), NONE);
        x.run(0, 1, 100);
        DUE.is("401 accesses", x.trace(0), 98);
        DUE.is("401 accesses, the latest one", x.trace(299), 99);
    }

    private static void usedLongestAgo() {
        SketchCache x = traced(1, 2, 3, 1, 4, 1, 2);
        first(x, 0, 3, 5, 1, 1, 3, 4);
        first(x, 0, 3, 7, 2, 1, 2, 4);
    }

    private static void cameFirst() {
        SketchCache x = traced(1, 2, 3, 1, 4, 1, 2);
        first(x, 1, 3, 5, 1, 2, 3, 4);
        first(x, 1, 3, 7, 1, 1, 2, 4);
    }

    private static void byHand() {
        SketchCache x = traced(1, 2, 3, 1, 4, 5, 6);
        first(x, 2, 3, 5, 1, 1, 3, 4);
        first(x, 2, 3, 6, 1, 1, 4, 5);
        first(x, 2, 3, 7, 1, 4, 5, 6);
        SketchCache all = traced(1, 2, 1, 2, 3, 4);
        first(all, 2, 2, 5, 2, 2, 3);
        first(all, 2, 2, 6, 2, 3, 4);
    }

    private static void fewestUses() {
        SketchCache x = traced(1, 1, 2, 2, 2, 3, 1, 4);
        first(x, 3, 2, 6, 3, 2, 3);
        first(x, 3, 2, 7, 3, 1, 2);
        first(x, 3, 2, 8, 3, 2, 4);
        SketchCache even = traced(2, 1, 1, 2, 3);
        first(even, 3, 2, 5, 2, 2, 3);
    }

    private static void askedLatest() {
        SketchCache x = traced(1, 2, 3, 1, 2);
        first(x, 4, 2, 3, 0, 2, 3);
        first(x, 4, 2, 4, 1, 1, 3);
        first(x, 4, 2, 5, 1, 2, 3);
    }

    private static void byGoal() {
        SketchCache x = traced(1, 2, 1, 3, 2, 1, 4, 3);
        first(x, 5, 2, 4, 1, 1, 3);
        first(x, 5, 2, 5, 1, 2, 3);
        first(x, 5, 2, 6, 1, 1, 2);
        first(x, 5, 2, 7, 1, 1, 4);
        first(x, 5, 2, 8, 1, 3, 4);
        SketchCache once = traced(1, 2, 3, 1, 2);
        first(once, 5, 2, 5, 0, 1, 2);
    }

    private static void partOfTheTrace() {
        SketchCache x = traced(1, 1, 2, 2, 3, 3);
        for (int policy = 0; policy < 6; policy++) {
            DUE.is("all, policy " + policy, x.replay(policy, 1, 0, 6), 3);
            DUE.is("from 1 to 5, policy " + policy, x.replay(policy, 30, 1, 5), 1);
            DUE.kept("policy " + policy, x, 1, 2, 3);
            DUE.is("nothing, policy " + policy, x.replay(policy, 3, 6, 6), 0);
            DUE.kept("policy " + policy, x);
        }
        DUE.is("the cache is as it was", x.about(8) * 10 + x.about(9), 63);
    }

    private static void sizesDoNotMatter() {
        SketchCache x = new SketchCache(1, 4, 1);
        x.size(1, 20);
        x.size(2, 20);
        x.access(1);
        x.access(2);
        x.access(1);
        first(x, 0, 2, 3, 1, 1, 2);
    }

    private static void wrongNumbers() {
        SketchCache x = traced(9, 8, 9);
        DUE.is("a replay", x.replay(0, 2, 0, 3), 1);
        DUE.is("policy -1", x.replay(-1, 2, 0, 3), BAD);
        DUE.is("policy 6", x.replay(6, 2, 0, 3), BAD);
        DUE.is("n 0", x.replay(0, 0, 0, 3), BAD);
        DUE.is("n 31", x.replay(0, 31, 0, 3), BAD);
        DUE.is("from -1", x.replay(0, 2, -1, 3), BAD);
        DUE.is("from above to", x.replay(0, 2, 2, 1), BAD);
        DUE.is("to above the trace", x.replay(0, 2, 0, 4), BAD);
        DUE.is("from and to above the trace", x.replay(0, 2, 4, 4), BAD);
        DUE.kept("a wrong replay keeps nothing else", x, 8, 9);
        DUE.is("kept(-1)", x.kept(-1), NONE);
        DUE.is("kept of the most", x.kept(Integer.MAX_VALUE), NONE);
    }

    private static void byTheirNumbers() {
        SketchCache x = traced();
        x.run(99, 97, 30);
        x.replay(0, 30, 0, 30);
        for (int i = 1; i < 30; i++) {
            DUE.is("kept(" + i + ") is above the one before", x.kept(i) > x.kept(i - 1) ? 1 : 0, 1);
        }
        DUE.is("kept(30)", x.kept(30), NONE);
    }

    public static void main(String[] args) {
        traces();
        usedLongestAgo();
        cameFirst();
        byHand();
        fewestUses();
        askedLatest();
        byGoal();
        partOfTheTrace();
        sizesDoNotMatter();
        wrongNumbers();
        byTheirNumbers();
        DUE.end();
    }
}
