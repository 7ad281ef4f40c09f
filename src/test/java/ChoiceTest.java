/** The estimate (promise 19), the choice of a rung, and the next rung (promise 20). */
public final class ChoiceTest {
    private ChoiceTest() {
    }

    public static void main(String[] args) {
        estimate();
        byThroughput();
        byBuffer();
        modes();
        firstDownload();
        oneUp();
        changes();
        audio();
        Check.end();
    }

    /** Segments of 85000, 92000 and 99000 bits, by 1000, 500 and 250 bits a millisecond. */
    private static StreamPlayer slowingDown(int window) {
        StreamPlayer x = new StreamPlayer();
        Players.set(x, Players.LENGTH, 1000, Players.SEGMENTS, 9, Players.LATENCY, 0);
        Players.set(x, Players.START, 60000, Players.WINDOW, window);
        Players.addVideo(x, 100);
        x.addPhase(85, 1000);
        x.addPhase(184, 500);
        x.addPhase(396, 250);
        x.addPhase(100000, 0);
        x.start();
        return x;
    }

    private static void estimate() {
        Check.sentence("Choice", "0 without samples", () -> {
            StreamPlayer x = slowingDown(3);
            Check.due("at once", x.estimate(), 0);
            x.run(84);
            Check.due("before the first one", x.estimate(), 0);
            x.run(1);
            Check.due("with it", x.estimate(), 1000);
            x.stop();
            x.start();
            Check.due("none in a second session", x.estimate(), 0);
        });
        Check.sentence("Choice", "as many as the window", () -> {
            int[] windows = {1, 2, 3};
            int[] due = {250, 191000 / 580, 276000 / 665};
            for (int i = 0; i < windows.length; i++) {
                StreamPlayer x = slowingDown(windows[i]);
                x.run(665);
                Check.due("window " + windows[i], x.estimate(), due[i]);
            }
            tenOfTwelve();
        });
        Check.sentence("Choice", "(all, if there are fewer)", () -> {
            for (int window = 2; window <= 10; window++) {
                StreamPlayer x = slowingDown(window);
                x.run(85);
                Check.due("one, window " + window, x.estimate(), 1000);
                x.run(184);
                Check.due("two, window " + window, x.estimate(), 177000 / 269);
            }
        });
        Check.sentence("Choice", "divided by the sum of their durations, rounded down", () -> {
            StreamPlayer x = Players.simple(50);
            x.clear();
            Players.addVideo(x, 1);
            x.addPhase(1, 50);
            x.start();
            x.run(2);
            Check.due("85 bits in 2 ms", x.estimate(), 42);
        });
        Check.sentence("Choice", "The estimate is the sum of the bits of the latest samples", () -> {
            StreamPlayer x = Players.simple(100);
            Players.addAudio(x, 1);
            x.start();
            x.run(86);
            Check.due("8500 of video in 85 ms and 88 of audio in 1", x.estimate(), 8588 / 86);
            sumAboveAllInts();
        });
    }

    /** Twelve segments come in a millisecond each; the first two no longer count. */
    private static void tenOfTwelve() {
        StreamPlayer x = Players.swift(20, Players.LENGTH, 100, Players.WINDOW, 10);
        Players.set(x, Players.START, 60000);
        Players.addVideo(x, 100);
        x.start();
        x.run(10);
        int first = 8500 + 9200;
        int middle = 9900 + 10600 + 11300 + 8900 + 9600 + 10300 + 11000 + 8600;
        Check.due("all ten", x.estimate(), (first + middle) / 10);
        x.run(2);
        Check.due("ten of twelve", x.estimate(), (middle + 9300 + 10000) / 10);
        x.stop();
        x.start();
        x.run(2);
        Check.due("two new ones", x.estimate(), (8500 + 9200) / 2);
    }

    private static void sumAboveAllInts() {
        StreamPlayer x = Players.swift(12, Players.LENGTH, 10000, Players.WINDOW, 10);
        Players.addVideo(x, 50000);
        x.start();
        Players.run(x, 80000);
        Check.holds("ten segments have come", x.downloaded(0) >= 10);
        Check.due("5000000000 bits", x.estimate(), 100000);
    }

    /** The rung that is next after a first segment that came with 1000 bits a millisecond. */
    private static int nextByThroughput(int safety, int... rates) {
        StreamPlayer x = new StreamPlayer();
        Players.set(x, Players.LENGTH, 1000, Players.LATENCY, 0, Players.MODE, 0);
        Players.set(x, Players.SAFETY, safety);
        Players.addVideo(x, rates);
        x.addPhase(1000, 1000);
        x.start();
        x.run(rates[0] * 85 / 100);
        Check.due("estimate", x.estimate(), 1000);
        return x.nextRung();
    }

    private static void byThroughput() {
        Check.sentence("Choice", "whose rate times 100 is at most the estimate times the safety", () -> {
            Check.due("just as much", nextByThroughput(80, 100, 800), 1);
            Check.due("just more", nextByThroughput(80, 100, 801), 0);
            Check.due("just as much, safety 100", nextByThroughput(100, 100, 1000), 1);
            Check.due("just more, safety 100", nextByThroughput(100, 100, 1001), 0);
            Check.due("just as much, safety 10", nextByThroughput(10, 80, 100), 1);
            Check.due("just more, safety 10", nextByThroughput(10, 80, 101), 0);
        });
        Check.sentence("Choice", "or rung 0 if there is none", () -> {
            Check.due("not even rung 0", nextByThroughput(10, 1000, 2000), 0);
            Check.due("a single rung", nextByThroughput(10, 1000), 0);
        });
    }

    private static void checkRungs(String what, StreamPlayer x, int... due) {
        x.start();
        x.run(due.length);
        for (int i = 0; i < due.length; i++) {
            Check.due(what + ": segment " + i, x.rungOf(0, i), due[i]);
        }
    }

    /** A segment comes with each millisecond, so that segment i finds i seconds in the buffer. */
    private static StreamPlayer swiftByBuffer(int low, int high) {
        StreamPlayer x = Players.swift(30, Players.START, 60000, Players.MODE, 1);
        Players.set(x, Players.LOW, low, Players.HIGH, high);
        Players.addVideo(x, 1, 2, 3, 4, 5);
        return x;
    }

    private static StreamPlayer twoByBuffer(int low, int high) {
        StreamPlayer x = swiftByBuffer(low, high);
        x.clear();
        Players.addVideo(x, 1, 2);
        x.addPhase(1000, 100000);
        return x;
    }

    private static void byBuffer() {
        Check.sentence("Choice", "it is rung 0 if B is less than the low buffer", () -> {
            checkRungs("low 3000", swiftByBuffer(3000, 3000), 0, 0, 0, 1, 2, 3, 4);
            checkRungs("low 3001", swiftByBuffer(3001, 3001), 0, 0, 0, 0, 1, 2, 3);
            checkRungs("low above high", swiftByBuffer(3000, 1000), 0, 0, 0, 1, 2, 3, 4);
        });
        Check.sentence("Choice", "the greatest rung if B is at least the high buffer", () -> {
            checkRungs("high 3000", twoByBuffer(1000, 3000), 0, 0, 0, 1, 1);
            checkRungs("high 3001", twoByBuffer(1000, 3001), 0, 0, 0, 0, 1);
            checkRungs("low and high 3000", twoByBuffer(3000, 3000), 0, 0, 0, 1, 1);
            checkRungs("both 0", swiftByBuffer(0, 0), 0, 1, 2, 3, 4, 4);
        });
        Check.sentence("Choice", "the greatest rung's number times (B - low) / (high - low), rounded down",
            () -> {
                checkRungs("low 1000, high 5000", swiftByBuffer(1000, 5000), 0, 0, 1, 2, 3, 4, 4);
                checkRungs("low 1001, high 5001", swiftByBuffer(1001, 5001), 0, 0, 0, 1, 2, 3, 4);
                checkRungs("low 999, high 4999", swiftByBuffer(999, 4999), 0, 0, 1, 2, 3, 4, 4);
                checkRungs("slower", swiftByBuffer(2000, 10000), 0, 0, 0, 0, 1, 1, 2, 2, 3, 3, 4);
            });
    }

    /** The first segment, of 85000 bits, has come in 85 ms; then the estimate is 1000. */
    private static int nextInMode(int mode, int buffers, int secondRate) {
        StreamPlayer x = new StreamPlayer();
        Players.set(x, Players.LENGTH, 1000, Players.LATENCY, 0, Players.MODE, mode);
        Players.set(x, Players.LOW, buffers, Players.HIGH, buffers);
        Players.addVideo(x, 100, secondRate);
        x.addPhase(1000, 1000);
        x.start();
        x.run(85);
        return x.nextRung();
    }

    private static void modes() {
        Check.sentence("Choice", "Mode 0 chooses by throughput, mode 1 by buffer", () -> {
            // 800 is safe by throughput, 801 is not; a buffer of 1000 is at least 0, not 60000.
            Check.due("mode 0, great buffer", nextInMode(0, 0, 801), 0);
            Check.due("mode 0, small buffer", nextInMode(0, 60000, 800), 1);
            Check.due("mode 1, great buffer", nextInMode(1, 0, 801), 1);
            Check.due("mode 1, small buffer", nextInMode(1, 60000, 800), 0);
        });
        Check.sentence("Choice", "mode 2 the smaller one of both", () -> {
            Check.due("throughput has 0", nextInMode(2, 0, 801), 0);
            Check.due("buffer has 0", nextInMode(2, 60000, 800), 0);
            Check.due("both have 1", nextInMode(2, 0, 800), 1);
            Check.due("both have 0", nextInMode(2, 60000, 801), 0);
        });
    }

    private static void firstDownload() {
        Check.sentence("Choice", "For the first download of video of a session, rung 0 is taken.", () -> {
            StreamPlayer x = swiftByBuffer(0, 0);
            for (int session = 0; session < 2; session++) {
                x.start();
                Check.due("the next one is of rung 0", x.nextRung(), 0);
                x.run(1);
                Check.due("it was", x.rungOf(0, 0), 0);
                Check.due("the next one is not", x.nextRung(), 1);
                x.run(5);
                Check.due("up to the greatest", x.rungOf(0, 5), 4);
                x.stop();
            }
        });
        Check.sentence("Choice", "with c as the rung of the download of video that began last", () -> {
            StreamPlayer x = swiftByBuffer(0, 0);
            x.setParameter(Players.LATENCY, 100);
            x.start();
            x.run(1);
            Check.due("the first one has begun, not ended", x.downloaded(0), 0);
            Check.due("the next one by the choice", x.nextRung(), 1);
            x.run(102);
            Check.due("the second one has begun", x.download(2), 1);
            Check.due("the next one is one more again", x.nextRung(), 2);
        });
        Check.sentence("Promise 20", "Returns the rung that would be taken if a download of video began "
            + "now.", () -> {
                StreamPlayer x = swiftByBuffer(0, 0);
                x.setParameter(Players.SEGMENTS, 1);
                x.start();
                x.run(1);
                Check.due("also if there is no next segment", x.nextRung(), 1);
                x.run(2000);
                Check.due("in an ended session", x.state(), 4);
                Check.due("as well", x.nextRung(), 1);
            });
    }

    private static void oneUp() {
        Check.sentence("Choice", "if the chosen rung is greater than c, c + 1 is taken", () ->
            Check.due("one rung up at most", nextByThroughput(100, 100, 200, 300, 400), 1));
        Check.sentence("Choice", "if at least hold milliseconds have passed since the latest change", () -> {
            StreamPlayer x = swiftByBuffer(0, 0);
            x.setParameter(Players.HOLD, 3);
            checkRungs("hold 3", x, 0, 0, 0, 1, 1, 1, 2, 2, 2, 3);
            x.stop();
            x.setParameter(Players.HOLD, 1);
            checkRungs("hold 1", x, 0, 1, 2, 3);
        });
        Check.sentence("Choice", "and c otherwise", () -> {
            StreamPlayer x = swiftByBuffer(0, 0);
            x.setParameter(Players.HOLD, 20000);
            x.start();
            x.run(19999);
            Check.due("held for 19999", x.nextRung(), 0);
            x.run(1);
            Check.due("not for 20000", x.nextRung(), 1);
        });
        Check.sentence("Choice", "if it is not greater, it is taken", ChoiceTest::down);
    }

    /**
     * Segments are available a second after one another, at 0, 1000, 2000 and so on; the hold of
     * 1500 lets the rung increase with each second one of them. Up to 4000 each comes at once; the
     * 108000 bits of the first one of rung 2 come by 300 a millisecond, from 4000 to 4359.
     */
    private static void down() {
        StreamPlayer x = Players.swift(9, Players.LIVE, 1000, Players.HOLD, 1500, Players.MODE, 0);
        x.clear();
        Players.set(x, Players.SAFETY, 10, Players.WINDOW, 1, Players.GRACE, 5000);
        Players.addVideo(x, 1, 50, 100);
        x.addPhase(4000, 100000);
        x.addPhase(100000, 300);
        x.start();
        x.run(4001);
        Check.due("rung 2 at 4000", x.download(2), 2);
        x.run(358);
        Check.due("4359: it is safe by the old estimate, and not greater", x.nextRung(), 2);
        x.run(1);
        Check.due("4360: it is there", x.rungOf(0, 4), 2);
        Check.due("two rungs down, though held", x.nextRung(), 0);
        x.run(650);
        Check.due("so it is", x.rungOf(0, 5), 0);
        Check.due("two switches up and one down", x.count(3), 3);
    }

    private static void changes() {
        Check.sentence("Choice", "the time of the latest change is 0 at first", () -> {
            StreamPlayer x = Players.swift(9, Players.LIVE, 1, Players.HOLD, 1500, Players.MODE, 1);
            Players.set(x, Players.LOW, 0, Players.HIGH, 0);
            Players.addVideo(x, 1, 2, 3);
            x.start();
            // The first download begins at 999, but that is no change.
            x.run(1499);
            Check.due("1499: held", x.nextRung(), 0);
            x.run(1);
            Check.due("1500: no longer", x.nextRung(), 1);
            x.run(500);
            Check.due("rung 1 at 1999", x.rungOf(0, 1), 1);
            x.run(1498);
            Check.due("3498: held", x.nextRung(), 1);
            x.run(1);
            Check.due("3499: no longer", x.nextRung(), 2);
        });
        Check.sentence("Choice", "with another rung than that of the download of video that began before",
            () -> {
                // Rung 0 at 0, 1 and 2, rung 1 from 3 on; the downloads at 4 and 5 are no changes.
                StreamPlayer x = swiftByBuffer(0, 0);
                x.setParameter(Players.HOLD, 3);
                x.start();
                x.run(5);
                Check.due("5: held", x.nextRung(), 1);
                x.run(1);
                Check.due("6: no longer", x.nextRung(), 2);
            });
        Check.sentence("Choice", "also in step 3", ChoiceTest::changeInStep3);
    }

    private static void changeInStep3() {
        StreamPlayer x = Players.simple(100);
        x.clear();
        Players.set(x, Players.START, 200, Players.GRACE, 0, Players.MODE, 1);
        Players.set(x, Players.LOW, 0, Players.HIGH, 0, Players.HOLD, 2);
        Players.addVideo(x, 100, 200, 1000);
        x.addPhase(1, 100000);
        x.addPhase(1, 0);
        x.addPhase(1, 100000);
        x.addPhase(1, 0);
        x.addPhase(100000, 10);
        x.start();
        // Segment 0 comes at 0, segment 1 of rung 0 waits from 1 to 2, for the change is held.
        x.run(3);
        Check.due("rung of segment 1", x.rungOf(0, 1), 0);
        x.run(1);
        Check.due("rung 1 at 3", x.download(2), 1);
        x.run(1);
        // 22400 bits by 10 against 198 ms; rung 0 has 9900
        Check.due("abandoned at 4 for rung 0", x.download(2), 0);
        Check.due("5: held", x.nextRung(), 0);
        x.run(1);
        Check.due("6: not held", x.nextRung(), 1);
    }

    /** The rung of audio after a first segment of video that came with a rate. */
    private static int audioRungAfter(int rate, int videoRate, int... rates) {
        StreamPlayer x = new StreamPlayer();
        Players.set(x, Players.LENGTH, 1000, Players.LATENCY, 0);
        Players.addVideo(x, videoRate);
        Players.addAudio(x, rates);
        x.addPhase(1000, rate);
        x.start();
        int span = videoRate * 850 / rate;
        x.run(span);
        Check.due("estimate", x.estimate(), rate);
        x.run(1);
        return x.downloaded(1) == 1 ? x.rungOf(1, 0) : x.download(2);
    }

    private static void audio() {
        Check.sentence("Choice, audio", "whose rate times 500 is at most the estimate times the safety", () -> {
            Check.due("just as much", audioRungAfter(1000, 100, 100, 160), 1);
            Check.due("just more", audioRungAfter(1000, 100, 100, 161), 0);
            // 85000 * 80 / 500 = 13600
            Check.due("just as much of much", audioRungAfter(85000, 50000, 100, 13600), 1);
            Check.due("just more of much", audioRungAfter(85000, 50000, 100, 13601), 0);
            Check.due("two rungs up at once", audioRungAfter(1000, 100, 100, 120, 160), 2);
        });
        Check.sentence("Choice, audio", "or rung 0 if there is none", () ->
            Check.due("none", audioRungAfter(1000, 100, 200, 300), 0));
    }
}
