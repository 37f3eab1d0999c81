/** Compares answers with those that are due, and ends the test with exit code 1 if one was wrong. */
final class Due {
    private final String test;
    private int asked = 0;
    private int wrong = 0;

    Due(String test) {
        this.test = test;
    }

    void is(String call, long got, long want) {
        asked++;
        if (got != want) {
            wrong++;
            System.out.println(test + ": " + call + " answered " + got + ", due is " + want);
        }
    }

    /** The keys of a part, from its first to its last, and none behind them. */
    void part(String when, SketchCache x, int part, int... keys) {
        for (int i = 0; i < keys.length; i++) {
            is(when + ": key(" + part + ", " + i + ")", x.key(part, i), keys[i]);
        }
        is(when + ": key(" + part + ", " + keys.length + ")", x.key(part, keys.length), SketchCache.NONE);
    }

    /** The keys that the latest replay kept, and none behind them. */
    void kept(String when, SketchCache x, int... keys) {
        for (int i = 0; i < keys.length; i++) {
            is(when + ": kept(" + i + ")", x.kept(i), keys[i]);
        }
        is(when + ": kept(" + keys.length + ")", x.kept(keys.length), SketchCache.NONE);
    }

    void end() {
        System.out.println(test + ": " + asked + " answers, " + wrong + " of them not as due");
        if (wrong != 0) {
            System.exit(1);
        }
    }
}
