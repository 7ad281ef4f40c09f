/** Promises 28 to 32: forecasts, trials and the fingerprint. */
public final class ForecastTest {
    private static final Class<IndexOutOfBoundsException> INDEX = IndexOutOfBoundsException.class;
    private static final Class<IllegalArgumentException> ARGUMENT = IllegalArgumentException.class;
    private static final Class<IllegalStateException> STATE = IllegalStateException.class;

    private ForecastTest() {
    }

    public static void main(String[] args) {
        forecast();
        forecastOfEverything();
        trialScore();
        bestMode();
        leastStart();
        wrongArguments();
        fingerprint();
        Check.end();
    }

    private static void forecast() {
        StreamPlayer x = Players.simple(50);
        x.start();
        int[] spans = {0, 84, 169, 170, 269, 270, 353, 354, 20000};
        int[] states = {1, 1, 1, 2, 2, 3, 3, 2, 4};
        int[] positions = {0, 0, 0, 1, 100, 100, 100, 101, 300};
        int[] stalls = {0, 0, 0, 0, 0, 1, 84, 84, 182};
        int[] buffers = {0, 0, 0, 99, 0, 0, 0, 99, 0};
        int[] times = {0, 33, 200};
        for (int time : times) {
            x.run(time - x.time());
            long before = x.fingerprint();
            for (int i = 0; i < spans.length; i++) {
                int rest = Math.min(spans[i] - time, 20000);
                if (rest >= 0) {
                    String from = " of " + spans[i] + " at " + time;
                    Check.due("state" + from, x.forecast(rest, 0), states[i]);
                    Check.due("position" + from, x.forecast(rest, 1), positions[i]);
                    Check.due("stall time" + from, x.forecast(rest, 2), stalls[i]);
                    Check.due("buffer" + from, x.forecast(rest, 3), buffers[i]);
                }
            }
            Check.due("nothing is changed at " + time, x.fingerprint(), before);
            Check.due("nor the time line", x.timeLine(1), -1);
        }
        Check.due("and it runs as if nothing had been asked", x.run(154), 101);
    }

    /** Two tracks, a network that fails now and then, changes that are held, abandoned downloads. */
    private static StreamPlayer busy(int mode) {
        StreamPlayer x = new StreamPlayer();
        Players.set(x, Players.LENGTH, 200, Players.SEGMENTS, 60, Players.START, 300);
        Players.set(x, Players.RESUME, 200, Players.LOW, 300, Players.HIGH, 900, Players.CAP, 1300);
        Players.set(x, Players.LATENCY, 5, Players.HOLD, 300, Players.GRACE, 60, Players.MODE, mode);
        Players.set(x, Players.WINDOW, 3);
        Players.addVideo(x, 100, 200, 300, 500);
        Players.addAudio(x, 10, 20, 60);
        x.addPhase(1148, 500);
        x.addPhase(1181, 50);
        return x;
    }

    /** What a forecast says of a time is what another player finds there. */
    private static void forecastOfEverything() {
        for (int mode = 0; mode <= 2; mode++) {
            StreamPlayer later = busy(mode);
            int[][] due = new int[120][];
            later.start();
            for (int i = 0; i < due.length; i++) {
                due[i] = new int[] {later.state(), later.position(), later.spent(1), later.buffer(0)};
                later.run(100);
            }
            Check.due("something was abandoned in mode " + mode, later.count(1) > 0 ? 1 : 0, 1);
            Check.due("something stalled in mode " + mode, later.count(0) > 0 ? 1 : 0, 1);
            StreamPlayer x = busy(mode);
            x.start();
            for (int i = 0; i < 80; i += 5) {
                // What a trial leaves behind must not come into a forecast.
                x.trialScore((mode + 1) % 3, 100 * i);
                compareForecasts(x, i, due, 7);
                compareForecasts(x, i, due, 39);
                x.run(500);
            }
            x.run(4000);
            Check.due("the same in the end in mode " + mode, x.fingerprint(), later.fingerprint());
        }
    }

    private static void compareForecasts(StreamPlayer x, int now, int[][] due, int steps) {
        for (int what = 0; what <= 3; what++) {
            Check.due("forecast of " + what + " for " + 100 * steps + " at " + 100 * now,
                x.forecast(100 * steps, what), due[now + steps][what]);
        }
    }

    /** Mode 0 stays at rung 0, mode 1 takes rung 1 and stalls. */
    private static StreamPlayer trying() {
        StreamPlayer x = Players.simple(100);
        x.clear();
        Players.set(x, Players.LOW, 0, Players.HIGH, 0, Players.GRACE, 5000);
        Players.addVideo(x, 70, 1000);
        x.addPhase(1000, 100);
        return x;
    }

    /** The score of a real session in a mode, after a time. */
    private static long scoreOf(StreamPlayer x, int mode, int milliseconds) {
        int old = x.setParameter(Players.MODE, mode);
        x.start();
        x.run(milliseconds);
        long score = x.score();
        x.stop();
        x.setParameter(Players.MODE, old);
        return score;
    }

    private static void trialScore() {
        StreamPlayer x = trying();
        int[] spans = {0, 59, 60, 161, 500, 20000};
        for (int mode = 0; mode <= 2; mode++) {
            for (int span : spans) {
                Check.due("trial of mode " + mode + " for " + span,
                    x.trialScore(mode, span), scoreOf(x, mode, span));
            }
        }
        Check.due("trials begin no session", x.state(), 0);
        // 5950 bits in 60 ms, from then on each segment is there in time
        Check.due("mode 0", x.trialScore(0, 20000), 21000);
        // The buffer ends at 159; 105000 bits of segment 1 are there with millisecond 1109.
        Check.due("mode 1", x.trialScore(1, 1109), 7000 - 2 * 1000 * 950);
        Check.due("mode 2", x.trialScore(2, 20000), 21000);
        x.start();
        x.run(140);
        long before = x.fingerprint();
        Check.due("during a session", x.trialScore(0, 20000), 21000);
        Check.due("during a session, another mode", x.trialScore(1, 1109), 7000 - 1900000);
        Check.due("nothing is changed", x.fingerprint(), before);
        Check.due("the mode stays", x.forecast(1000, 2), 0);
    }

    private static void bestMode() {
        StreamPlayer x = trying();
        Check.due("two are equal", x.bestMode(20000), 0);
        Check.due("all are equal", x.bestMode(0), 0);
        x.start();
        long before = x.fingerprint();
        Check.due("during a session", x.bestMode(20000), 0);
        Check.due("nothing is changed", x.fingerprint(), before);
        StreamPlayer y = Players.swift(9, Players.SAFETY, 10, Players.LOW, 0, Players.HIGH, 0);
        Players.addVideo(y, 1000, 40000);
        Check.due("by buffer", y.bestMode(20000), 1);
        Check.due("the mode stays", y.setParameter(Players.MODE, 1), 2);
        modeTwoIsBest();
        modeOneIsBest();
    }

    /** Mode 2 has more than mode 0, but mode 1 has more than both. */
    private static void modeOneIsBest() {
        StreamPlayer x = Players.simple(100);
        x.clear();
        Players.set(x, Players.SEGMENTS, 40, Players.GRACE, 5000, Players.CAP, 1000);
        Players.set(x, Players.LOW, 200, Players.HIGH, 0, Players.WINDOW, 1, Players.START, 200);
        Players.addVideo(x, 100, 400);
        x.addPhase(500, 800);
        x.addPhase(1900, 150);
        long two = x.trialScore(2, 9000);
        Check.due("mode 2 has more than mode 0", two > x.trialScore(0, 9000) ? 1 : 0, 1);
        Check.due("mode 1 has more than mode 2", x.trialScore(1, 9000) > two ? 1 : 0, 1);
        Check.due("so mode 1 is best", x.bestMode(9000), 1);
    }

    /** The small buffer warns when the network fails, and the throughput when it is back. */
    private static void modeTwoIsBest() {
        StreamPlayer x = Players.simple(100);
        x.clear();
        Players.set(x, Players.SEGMENTS, 40, Players.GRACE, 5000, Players.CAP, 1000);
        Players.set(x, Players.LOW, 400, Players.HIGH, 200, Players.WINDOW, 1, Players.START, 300);
        Players.addVideo(x, 100, 500);
        x.addPhase(1000, 700);
        x.addPhase(1600, 40);
        long zero = x.trialScore(0, 9000);
        long one = x.trialScore(1, 9000);
        long two = x.trialScore(2, 9000);
        Check.due("mode 2 has more than mode 0", two > zero ? 1 : 0, 1);
        Check.due("mode 2 has more than mode 1", two > one ? 1 : 0, 1);
        Check.due("so it is best", x.bestMode(9000), 2);
    }

    private static void leastStart() {
        StreamPlayer x = Players.simple(100);
        Check.due("no time", x.leastStart(0), 0);
        Check.due("k = 0 stalls at once", x.leastStart(1), 1);
        Check.due("one segment is enough", x.leastStart(20000), 1);
        Check.due("no session begins", x.state(), 0);
        Check.due("the start threshold stays", x.setParameter(Players.START, 100), 100);
        StreamPlayer y = Players.simple(50);
        // The second segment is there with millisecond 353, and 100 ms are over at 269.
        Check.due("up to the first stall", y.leastStart(269), 1);
        Check.due("beyond it", y.leastStart(270), 2);
        // With two, 200 ms are over at 553; the third one is there with millisecond 551.
        Check.due("two are enough", y.leastStart(20000), 2);
        y.start();
        y.run(33);
        long before = y.fingerprint();
        Check.due("during a session", y.leastStart(20000), 2);
        Check.due("nothing is changed", y.fingerprint(), before);
        StreamPlayer z = Players.simple(50);
        z.setParameter(Players.SEGMENTS, 200);
        Check.due("even ten are too few", z.leastStart(20000), -1);
        // Segment i is there in time if twice the percents of k to i are at most 100 * i.
        z.setParameter(Players.SEGMENTS, 18);
        Check.due("ten are just enough", z.leastStart(20000), 10);
        z.setParameter(Players.SEGMENTS, 19);
        Check.due("ten are no longer enough", z.leastStart(20000), -1);
        StreamPlayer swift = Players.swift(3);
        Players.addVideo(swift, 1);
        Check.due("the first segment is there in time", swift.leastStart(20000), 0);
        swift.setParameter(Players.LENGTH, 10000);
        Check.due("segments longer than the greatest threshold", swift.leastStart(20000), 0);
    }

    private static void wrongArguments() {
        StreamPlayer x = Players.simple(100);
        Check.fails("forecast: span first", ARGUMENT, () -> x.forecast(20001, 4));
        Check.fails("forecast: what second", INDEX, () -> x.forecast(20000, 4));
        Check.fails("forecast: state third", STATE, () -> x.forecast(20000, 3));
        x.start();
        Check.fails("forecast(-1)", ARGUMENT, () -> x.forecast(-1, 0));
        Check.fails("forecast(20001)", ARGUMENT, () -> x.forecast(20001, 0));
        Check.fails("forecast of -1", INDEX, () -> x.forecast(0, -1));
        Check.fails("forecast of 4", INDEX, () -> x.forecast(0, 4));
        StreamPlayer empty = new StreamPlayer();
        StreamPlayer noPhases = new StreamPlayer();
        noPhases.addRung(0, 5);
        StreamPlayer noVideo = new StreamPlayer();
        noVideo.addRung(1, 5);
        noVideo.addPhase(5, 5);
        StreamPlayer[] notReady = {empty, noPhases, noVideo};
        for (StreamPlayer y : notReady) {
            Check.fails("trialScore", STATE, () -> y.trialScore(0, 0));
            Check.fails("bestMode", STATE, () -> y.bestMode(0));
            Check.fails("leastStart", STATE, () -> y.leastStart(0));
            wrongSpans(y);
        }
        wrongSpans(x);
    }

    private static void wrongSpans(StreamPlayer x) {
        int[] wrong = {-1, 20001, Integer.MIN_VALUE, Integer.MAX_VALUE};
        for (int n : wrong) {
            Check.fails("trialScore for " + n, ARGUMENT, () -> x.trialScore(0, n));
            Check.fails("bestMode for " + n, ARGUMENT, () -> x.bestMode(n));
            Check.fails("leastStart for " + n, ARGUMENT, () -> x.leastStart(n));
        }
        Check.fails("trialScore of mode -1", ARGUMENT, () -> x.trialScore(-1, 0));
        Check.fails("trialScore of mode 3", ARGUMENT, () -> x.trialScore(3, 0));
    }

    private static long print(long... numbers) {
        long print = 59;
        for (long number : numbers) {
            print = 31 * print + number;
        }
        return print;
    }

    private static void fingerprint() {
        StreamPlayer x = Players.simple(50);
        Check.due("no session", x.fingerprint(), 31 * 59);
        x.start();
        x.run(300);
        Check.due("stalled", x.fingerprint(), print(3, 300, 100, 0, 0,
            0, 1, 0, 0, 130, 6500, 50, 169, 31, 100, 1, 0, 1, 0, 0, 10000));
        x.run(700);
        Check.due("ended", x.fingerprint(), print(4, 1000, 300, 0, 0,
            -1, -1, -1, -1, -1, -1, 50, 169, 182, 300, 2, 0, 3, 0, 0, 30000));
        x.stop();
        Check.due("stopped", x.fingerprint(), 31 * 59);
        StreamPlayer y = Players.swift(9, Players.MODE, 1, Players.LOW, 0, Players.HIGH, 0);
        y.clear();
        Players.set(y, Players.GRACE, 0, Players.LATENCY, 0);
        Players.addVideo(y, 100, 200, 1000);
        Players.addAudio(y, 1);
        y.addPhase(4, 100000);
        y.addPhase(100000, 10);
        y.start();
        // Video of 85000 and 210000 bits takes 1 and 3 ms, audio of 880 bits 1.
        y.run(7);
        Check.due("all the numbers", y.fingerprint(), print(y.state(), 7, y.position(), y.buffer(0),
            y.buffer(1), y.download(0), y.download(1), y.download(2), y.download(3), y.download(4),
            y.received(), y.estimate(), y.spent(0), y.spent(1), y.spent(2), y.count(0), y.count(1),
            y.count(2), y.count(3), y.wasted(), y.quality()));
    }
}
