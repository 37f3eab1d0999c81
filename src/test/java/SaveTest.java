/** Promises 19 and 20: what is saved, what is not, and what a load brings back. */
public final class SaveTest {
    private static final Due DUE = new Due("SaveTest");
    private static final int BAD = SketchCache.BAD;
    private static final int NONE = SketchCache.NONE;

    private static void places() {
        SketchCache x = new SketchCache(2, 10, 3);
        for (int place = 0; place < 4; place++) {
            DUE.is("load(" + place + ") of nothing", x.load(place), NONE);
        }
        int[] wrong = {-1, 4, Integer.MIN_VALUE, Integer.MAX_VALUE};
        for (int place : wrong) {
            DUE.is("save(" + place + ")", x.save(place), BAD);
            DUE.is("load(" + place + ")", x.load(place), BAD);
        }
        for (int place = 0; place < 4; place++) {
            DUE.is("save(" + place + ")", x.save(place), place);
            x.access(place);
        }
        for (int place = 3; place >= 0; place--) {
            DUE.is("load(" + place + ")", x.load(place), place);
            DUE.is("accesses then", x.about(8), place);
            DUE.is("what later accesses brought is not there", x.where(place), NONE);
        }
        DUE.is("it stays saved", x.load(3), 3);
        x.access(50);
        DUE.is("what is loaded is not what is saved", x.load(3), 3);
        DUE.is("key 50", x.where(50), NONE);
        x.access(51);
        DUE.is("saved over", x.save(3), 4);
        x.remove(51);
        DUE.is("the later one is there", x.load(3), 4);
        DUE.is("key 51", x.where(51), 0);
    }

    private static SketchCache rich() {
        SketchCache x = new SketchCache(3, 12, 3);
        x.place(1, 5, 17);
        x.door(1, 6, 9);
        x.rule(0, 1);
        x.rule(1, 1);
        x.rule(2, 50);
        x.rule(3, 1);
        x.rule(4, 2);
        x.rule(5, 7);
        x.size(8, 4);
        x.run(0, 1, 20);
        x.run(0, 0, 20);
        x.run(3, 1, 26);
        x.access(8);
        return x;
    }

    /** All that can be asked for, as one text; it tells rules, places and bits as they were again. */
    private static String all(SketchCache x) {
        StringBuilder text = new StringBuilder();
        for (int what = 0; what < 16; what++) text.append(x.about(what)).append(' ');
        for (int part = 0; part < 3; part++) {
            for (int i = 0; i < 100; i++) text.append(x.key(part, i)).append(' ');
        }
        for (int i = 0; i < 300; i++) text.append(x.trace(i)).append(' ');
        for (int i = 0; i < 128; i++) text.append(x.bit(i)).append(' ');
        for (int row = 0; row < 3; row++) {
            for (int i = 0; i < 64; i++) text.append(x.counter(row, i)).append(' ');
        }
        for (int key = 0; key < 100; key++) {
            text.append(again(x.door(0, key, 0), x, 0, key)).append(' ');
            text.append(again(x.door(1, key, 0), x, 1, key)).append(' ');
            for (int row = 0; row < 3; row++) {
                int was = x.place(row, key, 0);
                x.place(row, key, was);
                text.append(was).append(' ');
            }
            x.remove(key);
            int size = x.size(key, 1);
            x.size(key, size);
            text.append(size).append(' ');
        }
        int[] least = {0, 0, 10, 0, 0, 5};
        for (int what = 0; what < 6; what++) text.append(x.rule(what, least[what])).append(' ');
        return text.toString();
    }

    private static int again(int was, SketchCache x, int which, int key) {
        x.door(which, key, was);
        return was;
    }

    private static void allThatThereIs() {
        String due = all(rich());
        SketchCache x = rich();
        x.save(2);
        for (int round = 0; round < 2; round++) {
            x.load(2);
            DUE.is("all is there again, round " + round, all(x).equals(due) ? 1 : 0, 1);
            x.place(0, 1, 1);
            x.door(0, 1, 1);
            x.rule(3, 2);
            x.size(99, 9);
            x.run(40, 7, 90);
        }
        SketchCache before = rich();
        SketchCache after = rich();
        after.save(0);
        after.run(9, 9, 100);
        after.rule(5, 50);
        after.load(0);
        for (int i = 0; i < 60; i++) {
            int key = i * i % 23;
            DUE.is("goes on as if nothing had been, access " + i, after.access(key), before.access(key));
        }
        DUE.is("what was aged and what climbed", after.about(7) * 100 + after.about(0), before.about(7) * 100 + before.about(0));
    }

    private static void keptIsNotSaved() {
        SketchCache x = new SketchCache(1, 10, 3);
        x.run(0, 1, 3);
        x.replay(0, 2, 0, 3);
        DUE.kept("before", x, 1, 2);
        x.save(0);
        x.replay(0, 1, 0, 3);
        x.load(0);
        DUE.kept("a load leaves what was kept", x, 2);
    }

    public static void main(String[] args) {
        places();
        allThatThereIs();
        keptIsNotSaved();
        DUE.end();
    }
}
