/** Promises 2, 3, 4 (rules 0 to 2), 8, 9, 10 and 11: the sketch, the door before it, and its aging. */
public final class SketchTest {
    private static final Due DUE = new Due("SketchTest");
    private static final int BAD = SketchCache.BAD;

    private static void placesAtFirst() {
        SketchCache x = new SketchCache(4, 10, 3);
        for (int key = 0; key < 100; key++) {
            for (int row = 0; row < 4; row++) {
                DUE.is("place(" + row + ", " + key + ", 63)", x.place(row, key, 63), (key * (2 * row + 5) + 11 * row) % 64);
                DUE.is("place(" + row + ", " + key + ", 0)", x.place(row, key, 0), 63);
            }
            DUE.is("door(0, " + key + ", 127)", x.door(0, key, 127), key);
            DUE.is("door(0, " + key + ", 0)", x.door(0, key, 0), 127);
            DUE.is("door(1, " + key + ", 127)", x.door(1, key, 127), (5 * key + 64) % 128);
            DUE.is("door(1, " + key + ", 0)", x.door(1, key, 0), 127);
        }
    }

    private static void wrongNumbers() {
        SketchCache x = new SketchCache(2, 10, 3);
        DUE.is("place of row -1", x.place(-1, 0, 0), BAD);
        DUE.is("place of row 2 of 2", x.place(2, 0, 0), BAD);
        DUE.is("place of key -1", x.place(0, -1, 0), BAD);
        DUE.is("place of key 100", x.place(0, 100, 0), BAD);
        DUE.is("place -1", x.place(0, 1, -1), BAD);
        DUE.is("place 64", x.place(0, 1, 64), BAD);
        DUE.is("a wrong place is not told", x.place(0, 1, 5), 5);
        DUE.is("bit -1 of the two", x.door(-1, 0, 0), BAD);
        DUE.is("bit 2 of the two", x.door(2, 0, 0), BAD);
        DUE.is("door of key -1", x.door(0, -1, 0), BAD);
        DUE.is("door of key 100", x.door(0, 100, 0), BAD);
        DUE.is("door to bit -1", x.door(0, 1, -1), BAD);
        DUE.is("door to bit 128", x.door(0, 1, 128), BAD);
        DUE.is("a wrong bit is not told", x.door(0, 1, 1), 1);
        int[][] rules = {{0, 0, 1}, {1, 0, 1}, {2, 10, 1000}, {3, 0, 2}, {4, 0, 20}, {5, 5, 500}};
        for (int[] rule : rules) {
            int was = x.rule(rule[0], rule[1]);
            DUE.is("rule " + rule[0] + " below", x.rule(rule[0], rule[1] - 1), BAD);
            DUE.is("rule " + rule[0] + " above", x.rule(rule[0], rule[2] + 1), BAD);
            DUE.is("rule " + rule[0] + " most", x.rule(rule[0], rule[2]), rule[1]);
            DUE.is("rule " + rule[0] + " back", x.rule(rule[0], was), rule[2]);
        }
        DUE.is("rule -1", x.rule(-1, 0), BAD);
        DUE.is("rule 6", x.rule(6, 0), BAD);
        DUE.is("add(-1)", x.add(-1), BAD);
        DUE.is("add(100)", x.add(100), BAD);
        DUE.is("nothing was added", x.about(6), 0);
        DUE.is("estimate(-1)", x.estimate(-1), BAD);
        DUE.is("estimate(100)", x.estimate(100), BAD);
        DUE.is("counter(-1, 0)", x.counter(-1, 0), BAD);
        DUE.is("counter(2, 0)", x.counter(2, 0), BAD);
        DUE.is("counter(0, -1)", x.counter(0, -1), BAD);
        DUE.is("counter(0, 64)", x.counter(0, 64), BAD);
        DUE.is("bit(-1)", x.bit(-1), BAD);
        DUE.is("bit(128)", x.bit(128), BAD);
    }

    private static void doorFirst() {
        SketchCache x = new SketchCache(2, 10, 3);
        DUE.is("first add", x.add(7), 1);
        DUE.is("first bit of 7", x.bit(7), 1);
        DUE.is("second bit of 7", x.bit(99), 1);
        DUE.is("row 0 is as it was", x.counter(0, 35), 0);
        DUE.is("second add", x.add(7), 2);
        DUE.is("row 0 grew", x.counter(0, 35), 1);
        DUE.is("row 1 grew", x.counter(1, 60), 1);
        DUE.is("added", x.about(6), 2);
        DUE.is("no access", x.about(8), 0);
        DUE.is("no trace", x.about(15), 0);
        DUE.is("not there", x.where(7), SketchCache.NONE);
        x.door(0, 8, 7);
        DUE.is("one of its bits is 0", x.estimate(8), 0);
        x.door(1, 8, 99);
        DUE.is("both its bits are 1 by another key", x.estimate(8), 1);
        DUE.is("so its first add goes to the counters", x.add(8), 2);
        x.door(0, 9, 7);
        DUE.is("one bit 1 and the other 0 opens the door alone", x.add(9), 1);
        x.door(0, 20, 110);
        x.door(1, 20, 110);
        DUE.is("two bits that are one", x.add(20), 1);
        DUE.is("bit(110)", x.bit(110), 1);
        DUE.is("two bits that are one, again", x.add(20), 2);
    }

    private static void doorNotInUse() {
        SketchCache x = new SketchCache(1, 10, 3);
        x.add(3);
        DUE.is("in use before", x.rule(0, 0), 1);
        DUE.is("the bits are not asked for", x.estimate(3), 0);
        DUE.is("the counters are", x.add(3), 1);
        DUE.is("no bit is set", x.add(4) + x.bit(4), 1);
        DUE.is("not in use before", x.rule(0, 1), 0);
        DUE.is("the bits are asked for again", x.estimate(3), 2);
    }

    private static SketchCache sharedCounter(int careful) {
        SketchCache x = new SketchCache(2, 10, 3);
        x.rule(0, 0);
        x.rule(1, careful);
        x.place(0, 0, 5);
        x.place(0, 1, 5);
        x.place(1, 0, 6);
        x.place(1, 1, 7);
        x.add(0);
        x.add(0);
        x.add(0);
        return x;
    }

    private static void carefulOrNot() {
        SketchCache plain = sharedCounter(0);
        DUE.is("plain add", plain.add(1), 1);
        DUE.is("plain: shared counter grew", plain.counter(0, 5), 4);
        DUE.is("plain: own counter grew", plain.counter(1, 7), 1);
        SketchCache careful = sharedCounter(1);
        DUE.is("careful add", careful.add(1), 1);
        DUE.is("careful: shared counter stayed", careful.counter(0, 5), 3);
        DUE.is("careful: own counter grew", careful.counter(1, 7), 1);
        DUE.is("careful add of equal counters", careful.add(0), 4);
        DUE.is("careful: both grew", careful.counter(0, 5) * 10 + careful.counter(1, 6), 44);
    }

    private static void neverAbove15() {
        for (int careful = 0; careful <= 1; careful++) {
            SketchCache x = new SketchCache(2, 10, 3);
            x.rule(1, careful);
            for (int i = 1; i <= 16; i++) {
                DUE.is("add " + i, x.add(2), i);
            }
            DUE.is("one add more", x.add(2), 16);
            DUE.is("a full counter", x.counter(0, 10), 15);
            x.rule(0, 0);
            DUE.is("without the door", x.add(2), 15);
        }
    }

    private static void aging() {
        SketchCache x = new SketchCache(1, 10, 3);
        x.rule(2, 11);
        for (int i = 0; i < 6; i++) {
            x.add(1);
        }
        for (int i = 0; i < 4; i++) {
            x.add(2);
        }
        DUE.is("added before", x.about(6), 10);
        DUE.is("aged before", x.about(7), 0);
        DUE.is("the add that ages: one counter of 4, cut to 2", x.add(2), 2);
        DUE.is("a counter of 5, cut to 2", x.counter(0, 5), 2);
        DUE.is("its first bit", x.bit(1), 0);
        DUE.is("its second bit", x.bit(69), 0);
        DUE.is("added after", x.about(6), 5);
        DUE.is("aged after", x.about(7), 1);
        for (int i = 0; i < 6; i++) {
            x.add(3);
        }
        DUE.is("aged again", x.about(7), 2);
        DUE.is("added after that", x.about(6), 5);
    }

    private static void smallerSample() {
        SketchCache x = new SketchCache(1, 10, 3);
        for (int i = 0; i < 20; i++) {
            x.add(i);
        }
        DUE.is("sample before", x.rule(2, 10), 200);
        DUE.is("not asked for yet", x.about(7), 0);
        DUE.is("added stays", x.about(6), 20);
        x.add(0);
        DUE.is("asked for with the next key added", x.about(7), 1);
        DUE.is("added is the half", x.about(6), 5);
        x.rule(0, 0);
        x.rule(0, 1);
        x.add(5);
        x.rule(0, 0);
        x.run(6, 1, 4);
        DUE.is("an access adds too", x.about(7), 2);
        DUE.is("bits age also when the door is not in use", x.bit(5), 0);
    }

    public static void main(String[] args) {
        placesAtFirst();
        wrongNumbers();
        doorFirst();
        doorNotInUse();
        carefulOrNot();
        neverAbove15();
        aging();
        smallerSample();
        DUE.end();
    }
}
