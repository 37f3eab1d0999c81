/** Term 1, the sketch and its door: a test for each sentence that names an edge. */
public final class SketchEdgesTest {
    private static final Due DUE = new Due("SketchEdgesTest");

    private static SketchCache sketch(int rows, int doorInUse, int careful) {
        SketchCache x = new SketchCache(rows, 10, 3);
        x.rule(0, doorInUse);
        x.rule(1, careful);
        return x;
    }

    private static void add(SketchCache x, int key, int times) {
        for (int i = 0; i < times; i++) x.add(key);
    }

    private static int sumOfRow(SketchCache x, int row) {
        int sum = 0;
        for (int i = 0; i < 64; i++) sum += x.counter(row, i);
        return sum;
    }

    private static int sumOfBits(SketchCache x) {
        int sum = 0;
        for (int i = 0; i < 128; i++) sum += x.bit(i);
        return sum;
    }

    /** "(k (2 r + 5) + 11 r) modulo 64": the last key before each row wraps around, and the first behind. */
    private static void placesWrapAround() {
        int[][] due = {
            {0, 12, 60}, {0, 13, 1}, {0, 63, 59}, {0, 64, 0}, {0, 99, 47}, {1, 7, 60}, {1, 8, 3}, {1, 99, 0},
            {2, 4, 58}, {2, 5, 3}, {2, 99, 17}, {3, 0, 33}, {3, 2, 55}, {3, 3, 2}, {3, 99, 34}};
        for (int[] d : due) {
            SketchCache x = sketch(4, 0, 0);
            x.add(d[1]);
            DUE.is("row " + d[0] + ", key " + d[1], x.counter(d[0], d[2]), 1);
            DUE.is("row " + d[0] + " has nothing else", sumOfRow(x, d[0]), 1);
        }
    }

    /** "the second one (5 k + 64) modulo 128". */
    private static void bitsWrapAround() {
        int[][] due = {{0, 64}, {12, 124}, {13, 1}, {38, 126}, {39, 3}, {64, 0}, {99, 47}};
        for (int[] d : due) {
            SketchCache x = sketch(1, 1, 0);
            x.add(d[0]);
            DUE.is("first bit of key " + d[0], x.bit(d[0]), 1);
            DUE.is("second bit of key " + d[0], x.bit(d[1]), 1);
            DUE.is("no other bit", sumOfBits(x), 2);
        }
    }

    /** "(they may be one)": 16, 48 and 80 are the keys whose two bits are one without being told. */
    private static void twoBitsMayBeOne() {
        for (int key = 16; key < 100; key += 32) {
            SketchCache x = sketch(1, 1, 0);
            DUE.is("key " + key, x.add(key), 1);
            DUE.is("its bit", x.bit(key), 1);
            DUE.is("no other bit", sumOfBits(x), 1);
            DUE.is("no counter", sumOfRow(x, 0), 0);
            DUE.is("key " + key + " again", x.add(key), 2);
        }
    }

    /** "If the door is in use, and one of the key's two bits is 0, both are 1 then". */
    private static void oneBitIsEnoughToBeStopped() {
        for (int first = 0; first <= 1; first++) {
            for (int second = 0; second <= 1; second++) {
                SketchCache x = sketch(1, 1, 0);
                // Keys 16 and 48 have one bit each, so that they set one of key 5's bits alone.
                x.door(0, 5, first == 1 ? 16 : 100);
                x.door(1, 5, second == 1 ? 48 : 101);
                x.add(16);
                x.add(48);
                boolean passes = first + second == 2;
                String when = "bits " + first + " and " + second;
                DUE.is(when + ": estimate", x.estimate(5), passes ? 1 : 0);
                DUE.is(when + ": added", x.add(5), passes ? 2 : 1);
                DUE.is(when + ": its counter", x.counter(0, 25), passes ? 1 : 0);
                DUE.is(when + ": bits", sumOfBits(x), 4 - first - second);
            }
        }
    }

    /** "D rows": each of them counts, and no other one does. */
    private static void justDRows() {
        for (int rows = 1; rows <= 4; rows++) {
            SketchCache x = sketch(rows, 0, 0);
            add(x, 0, 3);
            for (int row = 0; row < rows; row++) {
                DUE.is(rows + " rows, " + row + " of them shared with key 0", x.estimate(1), 0);
                x.place(row, 1, 11 * row);
            }
            DUE.is(rows + " rows, all of them shared with key 0", x.estimate(1), 3);
        }
    }

    /** "otherwise": without a door in use no bit is looked at, and none is set. */
    private static void noDoor() {
        SketchCache x = sketch(1, 0, 0);
        DUE.is("at once to the counters", x.add(5), 1);
        DUE.is("no bit", sumOfBits(x), 0);
        x.rule(0, 1);
        DUE.is("bits that are 0 add nothing", x.estimate(5), 1);
        DUE.is("then the door stops it once", x.add(5), 2);
        DUE.is("its counter is as it was", x.counter(0, 25), 1);
        x.rule(0, 0);
        DUE.is("bits that are 1 add nothing without the door", x.estimate(5), 1);
        DUE.is("and do not stop it", x.add(5), 2);
        DUE.is("they are as they were", sumOfBits(x), 2);
    }

    /** "none above 15", in a plain and in a careful sketch. */
    private static void noneAbove15() {
        for (int careful = 0; careful <= 1; careful++) {
            SketchCache x = sketch(2, 0, careful);
            add(x, 3, 14);
            DUE.is("14", x.counter(0, 15) * 100 + x.counter(1, 32), 1414);
            DUE.is("15", x.add(3), 15);
            DUE.is("not 16", x.add(3), 15);
            DUE.is("not 16", x.counter(0, 15) * 100 + x.counter(1, 32), 1515);
        }
    }

    /** "none above 15", while another place of the same key is not full. */
    private static void oneCounterIsFull() {
        for (int careful = 0; careful <= 1; careful++) {
            SketchCache x = sketch(2, 0, careful);
            add(x, 3, 15);
            x.place(0, 4, 15);
            DUE.is("careful " + careful + ": the smallest of 15 and 0", x.estimate(4), 0);
            DUE.is("careful " + careful + ": added", x.add(4), 1);
            DUE.is("careful " + careful + ": the full one", x.counter(0, 15), 15);
            DUE.is("careful " + careful + ": the other one", x.counter(1, 39), 1);
        }
    }

    /** "in a CAREFUL sketch just those that are as small as the smallest of them". */
    private static void justTheSmallest() {
        for (int careful = 0; careful <= 1; careful++) {
            SketchCache x = sketch(3, 0, 0);
            // Key 1 has 2 in row 0, 1 in row 1 and 1 in row 2: two are the smallest, one is not.
            x.place(0, 2, 5);
            x.place(0, 3, 5);
            x.place(1, 2, 18);
            x.place(2, 3, 31);
            x.add(2);
            x.add(3);
            x.rule(1, careful);
            DUE.is("before", x.counter(0, 5) * 100 + x.counter(1, 18) * 10 + x.counter(2, 31), 211);
            DUE.is("careful " + careful, x.add(1), 2);
            int due = careful == 1 ? 222 : 322;
            DUE.is("careful " + careful, x.counter(0, 5) * 100 + x.counter(1, 18) * 10 + x.counter(2, 31), due);
        }
    }

    /** "If ADDED is the SAMPLE then": not one before. */
    private static void agesAtTheSample() {
        for (int sample : new int[] {10, 11, 200}) {
            SketchCache x = sketch(1, 1, 0);
            x.rule(2, sample);
            add(x, 1, sample - 1);
            DUE.is("one before " + sample, x.about(7), 0);
            DUE.is("added", x.about(6), sample - 1);
            x.add(1);
            DUE.is("at " + sample, x.about(7), 1);
            DUE.is("the half of " + sample + ", cut off", x.about(6), sample / 2);
            add(x, 1, sample - sample / 2 - 1);
            DUE.is("not yet again", x.about(7), 1);
            x.add(1);
            DUE.is("again", x.about(7), 2);
        }
        SketchCache largest = sketch(1, 1, 0);
        largest.rule(2, 1000);
        for (int i = 0; i < 10; i++) largest.run(0, 1, i == 9 ? 99 : 100);
        DUE.is("one before 1000", largest.about(6) * 10 + largest.about(7), 9990);
        largest.access(0);
        DUE.is("at 1000", largest.about(6) * 10 + largest.about(7), 5001);
    }

    /** "(or more)", and rule 2: "it is asked for with the next key added". */
    private static void agesAboveTheSample() {
        for (int before : new int[] {9, 10, 11, 199}) {
            SketchCache x = sketch(1, 1, 0);
            add(x, 1, before);
            x.rule(2, 10);
            DUE.is("telling it ages nothing", x.about(6) * 10 + x.about(7), before * 10);
            x.access(2);
            DUE.is("the next key, by an access", x.about(6) * 10 + x.about(7), 51);
        }
        SketchCache y = sketch(1, 1, 0);
        add(y, 1, 9);
        y.rule(2, 10);
        y.rule(2, 11);
        y.add(1);
        DUE.is("the SAMPLE of then", y.about(7), 0);
    }

    /** "each counter becomes its half, cut off, all bits 0", in every row. */
    private static void halves() {
        int[] times = {0, 1, 2, 3, 14, 15, 16};
        int[] due = {0, 0, 1, 1, 7, 7, 7};
        for (int rows = 1; rows <= 4; rows++) {
            SketchCache x = sketch(rows, 0, 0);
            for (int key = 0; key < times.length; key++) add(x, key, times[key]);
            x.rule(0, 1);
            x.add(20);
            x.door(0, 21, 127);
            x.door(1, 21, 126);
            x.add(21);
            DUE.is("bits before", sumOfBits(x), 4);
            x.rule(0, 0);
            x.rule(2, 10);
            x.add(0);
            for (int key = 0; key < times.length; key++) {
                for (int row = 0; row < rows; row++) {
                    int place = (key * (2 * row + 5) + 11 * row) % 64;
                    DUE.is("row " + row + " of " + rows + ", " + times[key], x.counter(row, place), due[key]);
                }
            }
            DUE.is("bits then, also without a door in use", sumOfBits(x), 0);
        }
    }

    /** "THE ESTIMATE .. and one more if the door is in use and both its bits are 1": of 16 at most. */
    private static void estimates() {
        SketchCache x = sketch(3, 1, 0);
        DUE.is("nothing", x.estimate(1), 0);
        DUE.is("the door alone", x.add(1), 1);
        add(x, 1, 14);
        DUE.is("14 and the door", x.estimate(1), 15);
        DUE.is("15 and the door", x.add(1), 16);
        DUE.is("no more", x.add(1), 16);
        x.door(1, 1, 120);
        DUE.is("one bit of two", x.estimate(1), 15);
        x.place(2, 1, 0);
        DUE.is("the smallest of three", x.estimate(1), 0);
    }

    /** "ACCESS of a key: it is added. Then ..": who comes in is judged by what the aging left. */
    private static void agesBeforeItJudges() {
        for (int sample = 10; sample <= 11; sample++) {
            SketchCache x = new SketchCache(1, 4, 1);
            x.rule(0, 0);
            x.run(0, 1, 4);
            DUE.part("main is full", x, 1, 0, 1, 2);
            DUE.part("the next candidate", x, 0, 3);
            add(x, 3, 2);
            add(x, 0, 1);
            add(x, 50, 2);
            x.rule(2, sample);
            DUE.is("3 against 2", x.estimate(3) * 10 + x.estimate(0), 32);
            DUE.is("the tenth key", x.access(60), 1);
            DUE.is("sample " + sample + ": halves are not above each other", x.where(3), sample == 10 ? -1 : 1);
            DUE.is("sample " + sample + ": the victim", x.where(0), sample == 10 ? 1 : -1);
        }
    }

    public static void main(String[] args) {
        placesWrapAround();
        bitsWrapAround();
        twoBitsMayBeOne();
        oneBitIsEnoughToBeStopped();
        justDRows();
        noDoor();
        noneAbove15();
        oneCounterIsFull();
        justTheSmallest();
        agesAtTheSample();
        agesAboveTheSample();
        halves();
        estimates();
        agesBeforeItJudges();
        DUE.end();
    }
}
