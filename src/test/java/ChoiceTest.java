/** Promises 19 and 20, and the rules of choice and of abandonment behind rungOf and download. */
public final class ChoiceTest {
    private ChoiceTest() {
    }

    public static void main(String[] args) {
        window();
        byThroughput();
        byBuffer();
        modes();
        firstDownload();
        hold();
        audio();
        abandonment();
        abandonedTwice();
        abandonmentEdges();
        Check.end();
    }

    /** Segments of 85000, 92000 and 99000 bits, by 1000, 500 and 250 bits a millisecond. */
    private static StreamPlayer slowingDown(int window) {
        StreamPlayer x = new StreamPlayer();
        Players.set(x, Players.LENGTH, 1000, Players.SEGMENTS, 9, Players.LATENCY, 0);
        Players.set(x, Players.START, 60000, Players.WINDOW, window);
        Players.addVideo(x, 100);
        x.addPhase(85, 1000);
        x.addPhase(184, 500);
        x.addPhase(396, 250);
        x.addPhase(100000, 0);
        x.start();
        return x;
    }

    private static void window() {
        int[] due = {250, 191000 / 580, 276000 / 665, 276000 / 665};
        int[] windows = {1, 2, 3, 10};
        for (int i = 0; i < windows.length; i++) {
            StreamPlayer x = slowingDown(windows[i]);
            x.run(84);
            Check.due("no sample, window " + windows[i], x.estimate(), 0);
            x.run(1);
            Check.due("one sample, window " + windows[i], x.estimate(), 1000);
            x.run(184);
            Check.due("two samples, window " + windows[i], x.estimate(),
                windows[i] == 1 ? 500 : 177000 / 269);
            x.run(10000);
            Check.due("three samples, window " + windows[i], x.estimate(), due[i]);
        }
        tenOfTwelve();
        StreamPlayer y = Players.simple(100);
        Players.addAudio(y, 1);
        y.start();
        // 8500 bits in 85 ms and 88 in 1
        y.run(86);
        Check.due("samples of audio count too", y.estimate(), 8588 / 86);
    }

    /** Twelve segments come in a millisecond each; the first two no longer count. */
    private static void tenOfTwelve() {
        StreamPlayer x = Players.swift(20, Players.LENGTH, 100, Players.WINDOW, 10);
        Players.set(x, Players.START, 60000);
        Players.addVideo(x, 100);
        x.start();
        x.run(12);
        int last = 9900 + 10600 + 11300 + 8900 + 9600 + 10300 + 11000 + 8600 + 9300 + 10000;
        Check.due("ten of twelve samples", x.estimate(), last / 10);
        x.stop();
        x.start();
        x.run(2);
        Check.due("two new ones", x.estimate(), (8500 + 9200) / 2);
    }

    /** The rung that is next after a first segment that came with 1000 bits a millisecond. */
    private static int nextByThroughput(int safety, int... rates) {
        StreamPlayer x = new StreamPlayer();
        Players.set(x, Players.LENGTH, 1000, Players.LATENCY, 0, Players.MODE, 0);
        Players.set(x, Players.SAFETY, safety);
        Players.addVideo(x, rates);
        x.addPhase(1000, 1000);
        x.start();
        x.run(rates[0] * 85 / 100);
        Check.due("estimate", x.estimate(), 1000);
        return x.nextRung();
    }

    private static void byThroughput() {
        Check.due("rate just safe", nextByThroughput(80, 100, 800), 1);
        Check.due("rate just too great", nextByThroughput(80, 100, 801), 0);
        Check.due("safety 100", nextByThroughput(100, 100, 1000), 1);
        Check.due("safety 10", nextByThroughput(10, 80, 100), 1);
        Check.due("safety 10, too great", nextByThroughput(10, 80, 101), 0);
        Check.due("none is safe", nextByThroughput(10, 1000, 2000), 0);
        Check.due("one rung up at most", nextByThroughput(100, 100, 200, 300), 1);
    }

    private static void checkRungs(String what, StreamPlayer x, int... due) {
        x.start();
        x.run(due.length);
        for (int i = 0; i < due.length; i++) {
            Check.due(what + ": segment " + i, x.rungOf(0, i), due[i]);
        }
    }

    private static StreamPlayer swiftByBuffer(int low, int high) {
        StreamPlayer x = Players.swift(30, Players.START, 60000, Players.MODE, 1);
        Players.set(x, Players.LOW, low, Players.HIGH, high);
        Players.addVideo(x, 1, 2, 3, 4, 5);
        return x;
    }

    private static void byBuffer() {
        checkRungs("low 1000, high 5000", swiftByBuffer(1000, 5000), 0, 0, 1, 2, 3, 4, 4);
        checkRungs("rounded down", swiftByBuffer(1001, 5001), 0, 0, 0, 1, 2, 3, 4);
        checkRungs("slower", swiftByBuffer(2000, 10000), 0, 0, 0, 0, 1, 1, 2, 2, 3, 3, 4);
        checkRungs("both 0", swiftByBuffer(0, 0), 0, 1, 2, 3, 4, 4);
        checkRungs("low is high", swiftByBuffer(3000, 3000), 0, 0, 0, 1, 2, 3, 4);
        checkRungs("low above high", swiftByBuffer(3000, 1000), 0, 0, 0, 1, 2, 3, 4);
        checkRungs("low is one more", swiftByBuffer(3001, 3001), 0, 0, 0, 0, 1, 2, 3);
    }

    private static void modes() {
        // By buffer 1 at once; by throughput 0, for 85000 bits in 85 ms allow 800.
        int[] generous = {0, 1, 0};
        // By buffer 0; by throughput 1.
        int[] careful = {1, 0, 0};
        for (int mode = 0; mode <= 2; mode++) {
            StreamPlayer x = new StreamPlayer();
            Players.set(x, Players.LENGTH, 1000, Players.LATENCY, 0, Players.MODE, mode);
            Players.set(x, Players.LOW, 0, Players.HIGH, 0);
            Players.addVideo(x, 100, 801);
            x.addPhase(1000, 1000);
            x.start();
            x.run(85);
            Check.due("generous buffer, mode " + mode, x.nextRung(), generous[mode]);
            x.stop();
            x.clear();
            Players.set(x, Players.LOW, 60000, Players.HIGH, 60000);
            Players.addVideo(x, 100, 800);
            x.addPhase(1000, 1000);
            x.start();
            x.run(85);
            Check.due("careful buffer, mode " + mode, x.nextRung(), careful[mode]);
        }
    }

    private static void firstDownload() {
        StreamPlayer x = swiftByBuffer(0, 0);
        x.start();
        Check.due("the first one is of rung 0", x.nextRung(), 0);
        x.run(1);
        Check.due("the second one by the choice", x.nextRung(), 1);
        StreamPlayer y = swiftByBuffer(0, 0);
        Players.set(y, Players.LATENCY, 100);
        y.start();
        y.run(1);
        Check.due("the first one has begun, not ended", y.downloaded(0), 0);
        Check.due("rung of the next one", y.nextRung(), 1);
    }

    private static void hold() {
        StreamPlayer x = swiftByBuffer(0, 0);
        x.setParameter(Players.HOLD, 3);
        checkRungs("hold 3", x, 0, 0, 0, 1, 1, 1, 2, 2, 2, 3);
        x.stop();
        x.setParameter(Players.HOLD, 1);
        checkRungs("hold 1", x, 0, 1, 2, 3);
        StreamPlayer y = Players.swift(9, Players.LIVE, 1, Players.HOLD, 1500, Players.MODE, 1);
        Players.set(y, Players.LOW, 0, Players.HIGH, 0);
        Players.addVideo(y, 1, 2, 3);
        y.start();
        // The first one begins at 999, but that is no change.
        y.run(1498);
        Check.due("1498: held", y.nextRung(), 0);
        y.run(2);
        Check.due("1500: no longer", y.nextRung(), 1);
        y.run(500);
        Check.due("2000: rung of segment 1", y.rungOf(0, 1), 1);
        // This change was at 1999.
        y.run(1498);
        Check.due("3498: held", y.nextRung(), 1);
        y.run(1);
        Check.due("3499: no longer", y.nextRung(), 2);
    }

    private static int audioRungFor(int... rates) {
        StreamPlayer x = new StreamPlayer();
        Players.set(x, Players.LENGTH, 1000, Players.LATENCY, 0);
        Players.addVideo(x, 100);
        Players.addAudio(x, rates);
        x.addPhase(1000, 1000);
        x.start();
        x.run(86);
        Check.due("audio is being downloaded", x.download(0), 1);
        return x.download(2);
    }

    /** The estimate is 1000 and the safety 80, so that 160 is just safe. */
    private static void audio() {
        Check.due("audio, just safe", audioRungFor(100, 160), 1);
        Check.due("audio, just too great", audioRungFor(100, 161), 0);
        Check.due("audio, two rungs up at once", audioRungFor(100, 120, 160), 2);
        Check.due("audio, none is safe", audioRungFor(200, 300), 0);
    }

    /** One segment of rung 0 by 100 bits a millisecond, then one of rung 1 by 10. */
    private static StreamPlayer tooSlow(int latency, int grace) {
        StreamPlayer x = Players.simple(100);
        x.clear();
        Players.set(x, Players.LATENCY, latency, Players.GRACE, grace, Players.MODE, 1);
        Players.set(x, Players.LOW, 0, Players.HIGH, 0);
        Players.addVideo(x, 100, 1000);
        x.addPhase(85 + latency, 100);
        x.addPhase(100000, 10);
        x.start();
        x.run(85 + latency);
        Check.due("one is there", x.downloaded(0), 1);
        return x;
    }

    private static void abandonment() {
        StreamPlayer x = tooSlow(0, 0);
        x.run(1);
        Check.due("abandoned", x.count(1), 1);
        Check.due("its bits are wasted", x.wasted(), 10);
        int[] due = {0, 1, 0, 0, 0};
        for (int what = 0; what < due.length; what++) {
            Check.due("the new download " + what, x.download(what), due[what]);
        }
        Check.due("the new download: received", x.received(), 0);
        x.run(1);
        Check.due("its first millisecond", x.download(4), 1);
        Check.due("its first bits", x.received(), 10);
        x.run(919);
        Check.due("rung 0 is never abandoned", x.count(1), 1);
        Check.due("rung of the segment", x.rungOf(0, 1), 0);
        StreamPlayer y = tooSlow(0, 20);
        y.run(19);
        Check.due("within the grace", y.count(1), 0);
        Check.due("within the grace: rung", y.download(2), 1);
        y.run(1);
        Check.due("the grace is over", y.count(1), 1);
        Check.due("the grace is over: wasted", y.wasted(), 200);
        StreamPlayer z = tooSlow(5, 20);
        z.run(24);
        Check.due("within grace and latency", z.count(1), 0);
        z.run(1);
        Check.due("grace and latency are over", z.count(1), 1);
        Check.due("grace and latency: wasted", z.wasted(), 200);
        Check.due("grace and latency: waiting again", z.download(3), 5);
    }

    /** Rung 2 is left for the greatest rung that is quicker, and that one for rung 0. */
    private static void abandonedTwice() {
        StreamPlayer x = Players.simple(100);
        x.clear();
        Players.set(x, Players.START, 200, Players.GRACE, 0, Players.MODE, 1);
        Players.set(x, Players.LOW, 0, Players.HIGH, 0, Players.HOLD, 2);
        Players.addVideo(x, 100, 200, 1000);
        x.addPhase(1, 100000);
        x.addPhase(1, 0);
        x.addPhase(1, 100000);
        x.addPhase(1, 0);
        x.addPhase(100000, 10);
        x.start();
        // Segment 0 comes at 0, segment 1 of rung 0 waits from 1 to 2, for the change is held.
        x.run(3);
        Check.due("rung of segment 1", x.rungOf(0, 1), 0);
        x.run(1);
        Check.due("rung 1 at 3", x.download(2), 1);
        x.run(1);
        // 22400 bits by 10 against 198 ms; rung 0 has 9900
        Check.due("abandoned for rung 0", x.download(2), 0);
        Check.due("a change too: held", x.nextRung(), 0);
        x.run(1);
        Check.due("a change too: not held at 6", x.nextRung(), 1);
        threeRungs();
    }

    private static void threeRungs() {
        StreamPlayer x = Players.simple(100);
        x.clear();
        Players.set(x, Players.START, 200, Players.GRACE, 0, Players.MODE, 1);
        Players.set(x, Players.LOW, 0, Players.HIGH, 0);
        Players.addVideo(x, 100, 200, 1000);
        x.addPhase(2, 100000);
        x.addPhase(100000, 10);
        x.start();
        x.run(3);
        Check.due("once", x.count(1), 1);
        Check.due("the greatest quicker rung", x.download(2), 1);
        Check.due("the same segment", x.download(1), 2);
        x.run(1);
        Check.due("twice", x.count(1), 2);
        Check.due("the one below", x.download(2), 0);
        Check.due("wasted", x.wasted(), 20);
    }

    /**
     * Segments of 1000 ms; the first one comes at once, then 1051050 bits of rung 1 come by a
     * slower rate. Nothing is played, so that the buffer is 1000.
     */
    private static int abandonedBy(int lowRate, int grace, int rate, int milliseconds) {
        StreamPlayer x = Players.swift(2, Players.START, 60000, Players.MODE, 1);
        x.clear();
        Players.set(x, Players.LOW, 0, Players.HIGH, 0, Players.GRACE, grace);
        Players.addVideo(x, lowRate, 1001);
        int first = lowRate * 850 / 85000;
        x.addPhase(first, 85000);
        x.addPhase(100000, rate);
        x.start();
        x.run(first + milliseconds);
        Check.due("rung 1 began", x.size(0, 1, 1), 1051050);
        return x.count(1);
    }

    /**
     * With a latency of 2, the third millisecond of rung 1 brings 4133 of 1381800 bits: the rest
     * times 3 is 1000 * 4133 + 1, so that 1001 ms are left.
     */
    private static void roundedUp() {
        StreamPlayer x = Players.swift(2, Players.START, 60000, Players.MODE, 1, Players.LATENCY, 2);
        x.clear();
        Players.set(x, Players.LOW, 0, Players.HIGH, 0, Players.GRACE, 0);
        Players.addVideo(x, 100, 1316);
        x.addPhase(3, 85000);
        x.addPhase(100000, 4133);
        x.start();
        x.run(5);
        Check.due("rounded up: buffer", x.buffer(0), 1000);
        Check.due("rounded up: rung", x.download(2), 1);
        x.run(1);
        Check.due("rounded up: abandoned", x.wasted(), 4133);
    }

    private static void abandonmentEdges() {
        Check.due("left is the buffer", abandonedBy(100, 0, 1050, 1), 0);
        Check.due("left is one more", abandonedBy(100, 0, 1049, 1), 1);
        // By 100 bits a millisecond 10511 - d ms are left after d; rung 0 of 1000 takes 9200.
        Check.due("rung 0 is quicker", abandonedBy(1000, 1310, 100, 1310), 1);
        Check.due("rung 0 is not quicker", abandonedBy(1000, 1311, 100, 1400), 0);
        Check.due("no bits, no decision", abandonedBy(100, 0, 0, 5000), 0);
        Check.due("one bit is enough", abandonedBy(100, 0, 1, 1), 1);
        roundedUp();
    }
}
