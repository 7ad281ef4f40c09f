/** Players for the tests; the times in the tests are reckoned from these settings by hand. */
final class Players {
    static final int LENGTH = 0;
    static final int SEGMENTS = 1;
    static final int LATENCY = 2;
    static final int START = 3;
    static final int RESUME = 4;
    static final int LOW = 5;
    static final int HIGH = 6;
    static final int CAP = 7;
    static final int WINDOW = 8;
    static final int SAFETY = 9;
    static final int HOLD = 10;
    static final int GRACE = 11;
    static final int MODE = 12;
    static final int LIVE = 13;
    static final int TARGET = 14;

    private Players() {
    }

    /** Sets parameters, given as pairs of a number and a value. */
    static void set(StreamPlayer x, int... pairs) {
        for (int i = 0; i + 1 < pairs.length; i += 2) {
            x.setParameter(pairs[i], pairs[i + 1]);
        }
    }

    static void addVideo(StreamPlayer x, int... rates) {
        for (int rate : rates) {
            x.addRung(0, rate);
        }
    }

    static void addAudio(StreamPlayer x, int... rates) {
        for (int rate : rates) {
            x.addRung(1, rate);
        }
    }

    /** Lets more time pass than one call takes, and returns the position then. */
    static int run(StreamPlayer x, int milliseconds) {
        int left = milliseconds;
        while (left > 20000) {
            x.run(20000);
            left -= 20000;
        }
        return x.run(left);
    }

    /**
     * One rung of 100 bits a millisecond, three segments of 100 ms (of 8500, 9200 and 9900 bits),
     * no latency, thresholds of one segment.
     */
    static StreamPlayer simple(int bandwidth) {
        StreamPlayer x = new StreamPlayer();
        set(x, LENGTH, 100, SEGMENTS, 3, LATENCY, 0, START, 100, RESUME, 100);
        addVideo(x, 100);
        x.addPhase(1000, bandwidth);
        return x;
    }

    /**
     * Segments of 1000 ms, each of which comes within one millisecond; playing starts when a
     * second one is there, but the pairs may say otherwise.
     */
    static StreamPlayer swift(int segments, int... pairs) {
        StreamPlayer x = new StreamPlayer();
        set(x, LENGTH, 1000, SEGMENTS, segments, LATENCY, 0, START, 2000, RESUME, 1000, CAP, 60000);
        set(x, pairs);
        x.addPhase(1000, 100000);
        return x;
    }

    /**
     * A session in which segments of rung 0 and 1 come within a millisecond each, then one of rung 2
     * comes by 10 bits a millisecond and is abandoned for rung 1, and that one for rung 0.
     */
    static StreamPlayer threeRungs() {
        StreamPlayer x = simple(100);
        x.clear();
        set(x, START, 60000, GRACE, 0, MODE, 1, LOW, 0, HIGH, 0);
        addVideo(x, 100, 200, 1000);
        x.addPhase(2, 100000);
        x.addPhase(100000, 10);
        x.start();
        return x;
    }
}
