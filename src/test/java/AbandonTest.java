/** Step 3: downloads that are too slow are abandoned. */
public final class AbandonTest {
    private AbandonTest() {
    }

    public static void main(String[] args) {
        which();
        when();
        comparisons();
        then();
        largeNumbers();
        Check.end();
    }

    /**
     * One segment of rung 0 by 100 bits a millisecond, then one of rung 1 by 10: 105000 bits, where
     * rung 0 would have 9200. The buffer is at most 100.
     */
    private static StreamPlayer tooSlow(int latency, int grace) {
        StreamPlayer x = Players.simple(100);
        x.clear();
        Players.set(x, Players.LATENCY, latency, Players.GRACE, grace, Players.MODE, 1);
        Players.set(x, Players.LOW, 0, Players.HIGH, 0);
        Players.addVideo(x, 100, 1000);
        x.addPhase(85 + latency, 100);
        x.addPhase(100000, 10);
        x.start();
        x.run(85 + latency);
        return x;
    }

    private static void which() {
        Check.sentence("Step 3", "a download of video", AbandonTest::audioIsNot);
        Check.sentence("Step 3", "with a rung greater than 0", () -> {
            StreamPlayer x = Players.simple(100);
            x.clear();
            Players.set(x, Players.GRACE, 0, Players.START, 0);
            Players.addVideo(x, 100, 200);
            x.addPhase(1, 1);
            x.start();
            x.run(8499);
            Check.due("rung 0 goes on", x.download(2), 0);
            Check.due("for 8499 ms", x.download(4), 8499);
            Check.due("and is not abandoned", x.count(1), 0);
            StreamPlayer one = tooSlow(0, 0);
            one.run(1);
            Check.due("but rung 1 is", one.count(1), 1);
        });
        Check.sentence("Step 3", "is going on then", () -> {
            // Rung 1 has 105000 bits, which come at once.
            StreamPlayer x = Players.simple(8500);
            x.clear();
            Players.set(x, Players.GRACE, 0, Players.MODE, 1, Players.LOW, 0, Players.HIGH, 0);
            Players.addVideo(x, 100, 900);
            x.addPhase(1, 8500);
            x.addPhase(1000, 94500);
            x.start();
            x.run(2);
            Check.due("finished in step 2", x.rungOf(0, 1), 1);
            Check.due("so not abandoned", x.count(1), 0);
        });
    }

    /** Audio of rung 1 has 101000 bits and comes by 10 a millisecond; rung 0 would have 880. */
    private static void audioIsNot() {
        StreamPlayer x = Players.swift(9, Players.GRACE, 0, Players.START, 60000);
        x.clear();
        Players.addVideo(x, 1, 2);
        Players.addAudio(x, 1, 100);
        x.addPhase(1, 100000);
        x.addPhase(100000, 10);
        x.start();
        x.run(50);
        Check.due("audio goes on", x.download(0), 1);
        Check.due("of rung 1", x.download(2), 1);
        Check.due("it has received bits", x.received(), 490);
        Check.due("nothing is abandoned", x.count(1), 0);
    }

    private static void when() {
        Check.sentence("Step 3", "which has received at least 1 bit", () -> {
            Check.due("no bit", abandonedBy(100, 0, 0, 5000), 0);
            Check.due("1 bit", abandonedBy(100, 0, 1, 1), 1);
        });
        Check.sentence("Step 3", "its duration is at least the grace plus the latency", () -> {
            int[] latencies = {0, 0, 5, 5, 0, 2000};
            int[] graces = {2, 20, 0, 20, 5000, 5000};
            int[] durations = {2, 20, 6, 25, 5000, 7000};
            for (int i = 0; i < graces.length; i++) {
                String what = "grace " + graces[i] + ", latency " + latencies[i];
                StreamPlayer x = tooSlow(latencies[i], graces[i]);
                x.run(durations[i] - 1);
                Check.due(what + ": one less", x.count(1), 0);
                Check.due(what + ": rung", x.download(2), 1);
                x.run(1);
                Check.due(what + ": abandoned", x.count(1), 1);
            }
        });
    }

    /**
     * Segments of 1000 ms. Rung 0 comes by 85000 bits a millisecond, then 1051050 bits of rung 1
     * come by a slower rate. Nothing is played, so that the buffer is 1000.
     */
    private static int abandonedBy(int lowRate, int grace, int rate, int milliseconds) {
        StreamPlayer x = Players.swift(2, Players.START, 60000, Players.MODE, 1);
        x.clear();
        Players.set(x, Players.LOW, 0, Players.HIGH, 0, Players.GRACE, grace);
        Players.addVideo(x, lowRate, 1001);
        int first = (lowRate * 850 + 84999) / 85000;
        x.addPhase(first, 85000);
        x.addPhase(100000, rate);
        x.start();
        x.run(first + milliseconds);
        Check.due("rung 1 began", x.size(0, 1, 1), 1051050);
        Check.due("with a buffer of 1000", x.buffer(0), 1000);
        return x.count(1);
    }

    private static void comparisons() {
        Check.sentence("Step 3", "If left is greater than the buffer of video", () -> {
            // After one millisecond: 1050000 / 1050 = 1000, and 1050001 / 1049 is just above it.
            Check.due("left is the buffer", abandonedBy(100, 0, 1050, 1), 0);
            Check.due("left is one more", abandonedBy(100, 0, 1049, 1), 1);
        });
        Check.sentence("Step 3", "left be the number of its missing bits, times its duration, divided by "
            + "the received bits, rounded up", AbandonTest::leftIsRoundedUp);
        // By 100 bits a millisecond, 10510.5 - d ms are left after d.
        Check.sentence("Step 3", "is less than left", () -> {
            // Rung 0 has 920000 bits and takes 9200 ms.
            Check.due("9200 to 9201", abandonedBy(1000, 1310, 100, 1310), 1);
            Check.due("9200 to 9200 and less", abandonedBy(1000, 1311, 100, 1400), 0);
        });
        Check.sentence("Step 3", "the size of this segment of rung r, times the duration, divided by the "
            + "received bits, rounded up", () -> {
                // Rung 0 has 919080 bits and takes 9190.8 ms.
                Check.due("9191 to 9192", abandonedBy(999, 1319, 100, 1319), 1);
                Check.due("9191 to 9190.5", abandonedBy(999, 1320, 100, 1400), 0);
            });
    }

    /**
     * With a latency of 2, the third millisecond of rung 1 brings 4133 of 1381800 bits: the rest
     * times 3 is 1000 * 4133 + 1, so that 1001 ms are left, where the buffer is 1000.
     */
    private static void leftIsRoundedUp() {
        StreamPlayer x = Players.swift(2, Players.START, 60000, Players.MODE, 1, Players.LATENCY, 2);
        x.clear();
        Players.set(x, Players.LOW, 0, Players.HIGH, 0, Players.GRACE, 0);
        Players.addVideo(x, 100, 1316);
        x.addPhase(3, 85000);
        x.addPhase(100000, 4133);
        x.start();
        x.run(5);
        Check.due("buffer", x.buffer(0), 1000);
        Check.due("rung", x.download(2), 1);
        x.run(1);
        Check.due("abandoned", x.count(1), 1);
    }

    private static void then() {
        Check.sentence("Step 3", "of the greatest such rung r begins", AbandonTest::greatestSuchRung);
        Check.sentence("Step 3", "(as in 1; its next millisecond is in the next step 2)", () -> {
            StreamPlayer x = tooSlow(5, 20);
            x.run(25);
            int[] due = {0, 1, 0, 5, 0};
            for (int what = 0; what < due.length; what++) {
                Check.due("the new download " + what, x.download(what), due[what]);
            }
            Check.due("it has received nothing", x.received(), 0);
            x.run(5);
            Check.due("it has waited", x.download(3), 0);
            Check.due("for 5 ms", x.download(4), 5);
            Check.due("without a bit", x.received(), 0);
            x.run(1);
            Check.due("its first bits", x.received(), 10);
        });
        Check.sentence("Step 3", "The received bits are wasted.", () -> {
            StreamPlayer x = tooSlow(5, 20);
            x.run(24);
            Check.due("none yet", x.wasted(), 0);
            x.run(1);
            Check.due("20 ms of 10 bits", x.wasted(), 200);
            StreamPlayer twice = Players.threeRungs();
            twice.run(4);
            Check.due("twice 10 bits", twice.wasted(), 20);
        });
    }

    private static void greatestSuchRung() {
        StreamPlayer x = Players.threeRungs();
        x.run(2);
        Check.due("two segments", x.downloaded(0), 2);
        x.run(1);
        Check.due("abandoned once", x.count(1), 1);
        Check.due("for rung 1, not 0", x.download(2), 1);
        Check.due("of the same segment", x.download(1), 2);
        x.run(1);
        Check.due("abandoned twice", x.count(1), 2);
        Check.due("for rung 0", x.download(2), 0);
        x.run(989);
        Check.due("which is not abandoned", x.count(1), 2);
        x.run(1);
        Check.due("rung of the segment", x.rungOf(0, 2), 0);
    }

    private static void largeNumbers() {
        Check.sentence("Step 3", "times its duration, divided by the received bits", () -> {
            // 520000000 bits times 5000 is above all ints; 520000 ms are left, where 10000 are there.
            StreamPlayer x = large(10000, 1000);
            x.run(5000);
            Check.due("within the grace", x.received(), 4999000);
            x.run(1);
            Check.due("beyond it", x.count(1), 1);
            Check.due("wasted", x.wasted(), 5000000);
        });
        Check.sentence("Promise 24", "Returns the number of bits.", () -> {
            // Each segment of 5000 ms is abandoned after 5000 ms, when the buffer has just ended.
            StreamPlayer x = large(5000, 40000);
            Players.run(x, 5001 * 10);
            Check.due("ten times", x.count(1), 10);
            Check.due("200000000 bits each", x.wasted(), 2000000000);
            x.run(5001);
            Check.due("eleven times, above all ints", x.wasted(), 2200000000L);
        });
    }

    /** Rung 1 has the greatest rate, but the network is too slow for it; the grace is 5000. */
    private static StreamPlayer large(int length, int rate) {
        StreamPlayer x = new StreamPlayer();
        Players.set(x, Players.LENGTH, length, Players.LATENCY, 0, Players.MODE, 1);
        Players.set(x, Players.LOW, 0, Players.HIGH, 0, Players.GRACE, 5000);
        Players.addVideo(x, 1, 50000);
        x.addPhase(1, 40000);
        x.addPhase(100000, rate);
        x.start();
        return x;
    }
}
