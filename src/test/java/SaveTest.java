/** Promises 19 and 20: what is saved, what is not, and what a load brings back. */
public final class SaveTest {
    private static final Due DUE = new Due("SaveTest");
    private static final int BAD = SketchCache.BAD;
    private static final int NONE = SketchCache.NONE;

    private static void places() {
        SketchCache x = new SketchCache(2, 10, 3);
        for (int place = 0; place < 4; place++) {
            DUE.is("load(" + place + ") of nothing", x.load(place), NONE);
        }
        int[] wrong = {-1, 4, Integer.MIN_VALUE, Integer.MAX_VALUE};
        for (int place : wrong) {
            DUE.is("save(" + place + ")", x.save(place), BAD);
            DUE.is("load(" + place + ")", x.load(place), BAD);
        }
        for (int place = 0; place < 4; place++) {
            DUE.is("save(" + place + ")", x.save(place), place);
            x.access(place);
        }
        for (int place = 3; place >= 0; place--) {
            DUE.is("load(" + place + ")", x.load(place), place);
            DUE.is("accesses then", x.about(8), place);
            DUE.is("what later accesses brought is not there", x.where(place), NONE);
        }
        DUE.is("it stays saved", x.load(3), 3);
        x.access(50);
        DUE.is("what is loaded is not what is saved", x.load(3), 3);
        DUE.is("key 50", x.where(50), NONE);
        x.access(51);
        DUE.is("saved over", x.save(3), 4);
        x.remove(51);
        DUE.is("the later one is there", x.load(3), 4);
        DUE.is("key 51", x.where(51), 0);
    }

    /** Changes all that there is: what is told, what is there, what is counted, and at last the trace wraps around. */
    private static void change(SketchCache x, int round) {
        x.place(1, 5, 17 + round);
        x.door(1, 6, 9 + round);
        x.rule(0, round == 2 ? 0 : 1);
        x.rule(1, round % 2);
        x.rule(2, 50 + round);
        x.rule(3, round % 3);
        x.rule(4, 2 + round);
        x.rule(5, 7 + round);
        x.remove(8);
        x.size(8, 4 - round);
        x.run(round, 1, 20);
        x.run(2 * round, 0, 20);
        x.run(3, 1, 26);
        x.run(8, 0, 20 + 12 * round);
        x.run(20, 5, 24 + round);
        x.run(8, 0, 2 + round);
    }

    private static SketchCache changed(int rounds) {
        SketchCache x = new SketchCache(3, 12, 3);
        for (int round = 0; round < rounds; round++) change(x, round);
        return x;
    }

    /** What is saved behind each round is there again, whatever was loaded or done in between. */
    private static void allThatThereIs() {
        SketchCache x = new SketchCache(3, 12, 3);
        String[] due = new String[4];
        for (int round = 0; round < 4; round++) {
            change(x, round);
            DUE.is("save(" + round + ")", x.save(round), x.about(8));
            due[round] = Calls.whole(changed(round + 1));
        }
        DUE.is("the trace has wrapped around", x.about(8) > 300 ? 1 : 0, 1);
        for (int place : new int[] {3, 0, 1, 2, 3, 1, 0, 2, 0, 3, 2, 1}) {
            x.load(place);
            DUE.is("all that there was, place " + place, Calls.whole(x).equals(due[place]) ? 1 : 0, 1);
        }
    }

    /** The test above sees a number that a load forgets only if that number is not the same in all rounds. */
    private static void allNumbersDiffer() {
        for (int what = 0; what < 16; what++) {
            int different = 0;
            for (int round = 1; round < 4; round++) {
                if (changed(round + 1).about(what) != changed(round).about(what)) different++;
            }
            DUE.is("about(" + what + ") changes", different > 0 ? 1 : 0, 1);
        }
    }

    /** What cannot be asked for shows in what comes later. */
    private static void goesOnAsBefore() {
        for (int rounds = 1; rounds <= 4; rounds++) {
            SketchCache before = changed(rounds);
            SketchCache after = changed(rounds);
            after.save(0);
            change(after, 3);
            after.run(9, 9, 100);
            after.load(0);
            for (int i = 0; i < 60; i++) {
                int key = i * i % 23;
                DUE.is("access " + i + " goes on as if nothing had been", after.access(key), before.access(key));
            }
            DUE.is("and so does all", Calls.whole(after).equals(Calls.whole(before)) ? 1 : 0, 1);
        }
    }

    private static void keptIsNotSaved() {
        SketchCache x = new SketchCache(1, 10, 3);
        x.run(0, 1, 3);
        x.replay(0, 2, 0, 3);
        DUE.kept("before", x, 1, 2);
        x.save(0);
        x.replay(0, 1, 0, 3);
        x.load(0);
        DUE.kept("a load leaves what was kept", x, 2);
    }

    public static void main(String[] args) {
        places();
        allThatThereIs();
        allNumbersDiffer();
        goesOnAsBefore();
        keptIsNotSaved();
        DUE.end();
    }
}
