/** What the least and the greatest value of each parameter does in a session. */
public final class ParameterTest {
    private ParameterTest() {
    }

    public static void main(String[] args) {
        segments();
        latency();
        thresholds();
        buffers();
        cap();
        choice();
        grace();
        live();
        Check.end();
    }

    private static void segments() {
        Check.sentence("Parameters", "segment length D in milliseconds, 100 to 10000", () -> {
            int[] lengths = {100, 10000};
            for (int length : lengths) {
                StreamPlayer x = Players.swift(2, Players.LENGTH, length, Players.START, 0);
                Players.addVideo(x, 1);
                x.start();
                Check.due("near the end", Players.run(x, 2 * length - 1), 2 * length - 1);
                Check.due("the end", x.run(2), 2 * length);
                Check.due("ended", x.state(), 4);
            }
        });
        Check.sentence("Parameters", "number of segments, 1", () -> {
            StreamPlayer x = Players.swift(1);
            Players.addVideo(x, 1);
            Players.addAudio(x, 1);
            Check.due("start", x.start(), 1);
            x.run(10);
            Check.due("one of video", x.downloaded(0), 1);
            Check.due("one of audio", x.downloaded(1), 1);
            Check.due("none behind it", x.rungOf(0, 1), -1);
            x.run(1000);
            Check.due("the end", x.position(), 1000);
            Check.due("ended", x.state(), 4);
        });
        Check.sentence("Parameters", "number of segments, 1 to 200", ParameterTest::mostSegments);
    }

    /** The last segments of both tracks are of another rung than the first ones. */
    private static void mostSegments() {
        StreamPlayer x = Players.swift(200, Players.LENGTH, 100, Players.MODE, 1, Players.HOLD, 300);
        Players.set(x, Players.LOW, 0, Players.HIGH, 0, Players.START, 60000);
        Players.addVideo(x, 1, 2);
        Players.addAudio(x, 1, 2);
        Check.due("start", x.start(), 200);
        x.run(398);
        Check.due("199 of video", x.downloaded(0), 199);
        Check.due("the last one is not there", x.rungOf(0, 199), -1);
        x.run(2);
        for (int track = 0; track < 2; track++) {
            Check.due("all of track " + track, x.downloaded(track), 200);
            Check.due("rung of the first one " + track, x.rungOf(track, 0), track);
            Check.due("rung of the last one " + track, x.rungOf(track, 199), 1);
            Check.due("there is none behind it " + track, x.rungOf(track, 200), -1);
        }
        // Video is of rung 1 from the 151st segment on, which begins at 300.
        Check.due("rung of segment 149", x.rungOf(0, 149), 0);
        Check.due("rung of segment 150", x.rungOf(0, 150), 1);
        // It starts when the last one of audio has come, in millisecond 399.
        x.run(19999);
        Check.due("the end", x.position(), 20000);
        x.run(1);
        Check.due("ended", x.state(), 4);
        Check.due("quality of all", x.quality(), 15000 + 2 * 5000);
        Check.due("finished downloads", x.count(2), 400);
    }

    private static void latency() {
        Check.sentence("Parameters", "latency, 0 to 2000", () -> {
            int[] latencies = {0, 2000};
            for (int latency : latencies) {
                StreamPlayer x = Players.simple(100);
                x.setParameter(Players.LATENCY, latency);
                x.start();
                x.run(latency);
                Check.due("no bits within " + latency, Math.max(0, x.received()), 0);
                x.run(1);
                Check.due("the first ones after " + latency, x.received(), 100);
                Check.due("no waiting time", x.download(3), 0);
            }
        });
    }

    private static void thresholds() {
        Check.sentence("Parameters", "start threshold, 0", () -> {
            StreamPlayer x = Players.simple(100);
            x.setParameter(Players.START, 0);
            x.start();
            x.run(1);
            Check.due("it plays and stalls at once", x.state(), 3);
            Check.due("without start-up time", x.spent(0), 0);
            StreamPlayer there = Players.swift(9, Players.START, 0);
            Players.addVideo(there, 1);
            there.start();
            Check.due("it plays what comes at once", there.run(1), 1);
        });
        Check.sentence("Parameters", "start threshold, 0 to 60000", () -> {
            // A segment of 1000 ms comes with each millisecond.
            StreamPlayer x = Players.swift(61, Players.START, 60000);
            Players.addVideo(x, 1);
            x.start();
            x.run(59);
            Check.due("59000 are there", x.state(), 1);
            x.run(1);
            Check.due("60000 are there", x.state(), 2);
            Check.due("not all segments", x.downloaded(0), 60);
        });
        Check.sentence("Parameters", "resume threshold, 0", () -> {
            StreamPlayer x = Players.simple(50);
            x.setParameter(Players.RESUME, 0);
            x.start();
            x.run(1000);
            Check.due("each millisecond without buffer is a stall", x.count(0), 182);
            Check.due("which is taken up in the next one", x.spent(1), 182);
        });
        Check.sentence("Parameters", "resume threshold, 0 to 60000", () -> {
            // With a latency of 1 a segment comes with each second millisecond.
            StreamPlayer x = Players.swift(61, Players.START, 0, Players.RESUME, 60000);
            x.setParameter(Players.LATENCY, 1);
            Players.addVideo(x, 1);
            x.start();
            x.run(119);
            Check.due("59000 are there", x.state(), 3);
            x.run(1);
            Check.due("60000 are there", x.state(), 2);
            Check.due("not all segments", x.downloaded(0), 60);
        });
    }

    /** The next rung of video when its buffer is 59000, then when it is 60000; nothing plays yet. */
    private static void nextRungs(int low, int high, int at59000, int at60000) {
        StreamPlayer x = Players.swift(80, Players.START, 60000, Players.MODE, 1);
        Players.set(x, Players.LOW, low, Players.HIGH, high);
        Players.addVideo(x, 1, 2);
        Players.addAudio(x, 1);
        x.start();
        x.run(118);
        Check.due("59 segments", x.buffer(0), 59000);
        Check.due("next rung", x.nextRung(), at59000);
        x.run(1);
        Check.due("60 segments, of audio still 59", x.buffer(0), 60000);
        Check.due("next rung then", x.nextRung(), at60000);
    }

    private static void buffers() {
        Check.sentence("Parameters", "low buffer, 0 to 60000", () -> {
            nextRungs(60000, 60000, 0, 1);
            nextRungs(0, 59000, 1, 1);
        });
        Check.sentence("Parameters", "high buffer, 0 to 60000", () -> {
            nextRungs(0, 60000, 0, 1);
            nextRungs(0, 0, 1, 1);
        });
    }

    private static void cap() {
        Check.sentence("Parameters", "cap, 1000", () -> {
            StreamPlayer x = Players.swift(9, Players.CAP, 1000, Players.START, 1000);
            Players.addVideo(x, 1);
            x.start();
            x.run(1000);
            Check.due("the second one waits until the first has ended", x.downloaded(0), 1);
            x.run(1);
            Check.due("then it comes", x.downloaded(0), 2);
            Check.due("just in time", x.count(0), 0);
        });
        Check.sentence("Parameters", "cap, 1000 to 60000", () -> {
            StreamPlayer x = Players.swift(80, Players.CAP, 60000, Players.START, 60000);
            Players.addVideo(x, 1);
            x.start();
            // It plays from millisecond 59 on, so that 59000 are left at 1059.
            x.run(1059);
            Check.due("60 segments and no more", x.downloaded(0), 60);
            x.run(1);
            Check.due("then one more", x.downloaded(0), 61);
        });
    }

    private static void choice() {
        Check.sentence("Parameters", "window, 1 to 10", () -> {
            // One of 8500 bits in 85 ms, then ten, the first of them of 9200, in a millisecond each.
            int[] windows = {1, 10};
            int ten = 9200 + 9900 + 10600 + 11300 + 8900 + 9600 + 10300 + 11000 + 8600 + 9300;
            int[] due = {9300, ten / 10};
            for (int i = 0; i < windows.length; i++) {
                StreamPlayer x = Players.swift(11, Players.LENGTH, 100, Players.WINDOW, windows[i]);
                x.clear();
                x.setParameter(Players.START, 60000);
                Players.addVideo(x, 100);
                x.addPhase(85, 100);
                x.addPhase(1000, 100000);
                x.start();
                x.run(95);
                Check.due("eleven samples", x.downloaded(0), 11);
                Check.due("window " + windows[i], x.estimate(), due[i]);
            }
        });
        Check.sentence("Parameters", "safety, 10 to 100", () -> {
            Check.due("10: a tenth of 8500", nextBySafety(10, 850), 1);
            Check.due("10: more", nextBySafety(10, 851), 0);
            Check.due("100: all of it", nextBySafety(100, 8500), 1);
            Check.due("100: more", nextBySafety(100, 8501), 0);
        });
        Check.sentence("Parameters", "hold, 0 to 20000", () -> {
            StreamPlayer x = Players.swift(30, Players.START, 60000, Players.MODE, 1);
            Players.set(x, Players.LOW, 0, Players.HIGH, 0, Players.HOLD, 0);
            Players.addVideo(x, 1, 2, 3);
            x.start();
            x.run(3);
            Check.due("0: a change in each millisecond", x.rungOf(0, 2), 2);
            x.stop();
            x.setParameter(Players.HOLD, 20000);
            x.start();
            x.run(19999);
            Check.due("20000: held", x.nextRung(), 0);
            x.run(1);
            Check.due("20000: no longer", x.nextRung(), 1);
        });
        Check.sentence("Parameters", "mode, 0 to 2", () -> {
            // The buffer of 100 is below 101, so that modes 1 and 2 stay at rung 0.
            int[] due = {1, 0, 0};
            for (int mode = 0; mode <= 2; mode++) {
                StreamPlayer x = Players.simple(8500);
                Players.set(x, Players.MODE, mode, Players.LOW, 101, Players.HIGH, 101);
                x.addRung(0, 200);
                x.start();
                x.run(1);
                Check.due("mode " + mode, x.nextRung(), due[mode]);
            }
        });
    }

    /** The next rung by throughput after an estimate of 8500. */
    private static int nextBySafety(int safety, int rate) {
        StreamPlayer x = Players.simple(8500);
        Players.set(x, Players.MODE, 0, Players.SAFETY, safety);
        x.addRung(0, rate);
        x.start();
        x.run(1);
        Check.due("estimate", x.estimate(), 8500);
        return x.nextRung();
    }

    private static void grace() {
        Check.sentence("Parameters", "grace, 0 to 5000", () -> {
            int[] graces = {0, 5000};
            int[] abandonedAt = {1, 5000};
            for (int i = 0; i < graces.length; i++) {
                StreamPlayer x = Players.simple(100);
                x.clear();
                Players.set(x, Players.GRACE, graces[i], Players.MODE, 1);
                Players.set(x, Players.LOW, 0, Players.HIGH, 0);
                Players.addVideo(x, 100, 1000);
                x.addPhase(85, 100);
                x.addPhase(100000, 10);
                x.start();
                x.run(85 + abandonedAt[i] - 1);
                Check.due("grace " + graces[i] + ": not yet", x.count(1), 0);
                x.run(1);
                Check.due("grace " + graces[i] + ": abandoned", x.count(1), 1);
            }
        });
    }

    private static void live() {
        Check.sentence("Parameters", "live delay, 0 to 60000", () -> {
            // With a target of 0 it catches up, so that the cap leaves room for a segment at 1000.
            StreamPlayer x = Players.swift(80, Players.START, 0, Players.LIVE, 60000);
            Players.set(x, Players.TARGET, 0, Players.LOW, 0);
            Players.addVideo(x, 1);
            x.start();
            Check.due("60000: latency", x.latency(), 60000);
            x.run(1000);
            Check.due("60000: segment 59 was available at 0", x.downloaded(0), 60);
            x.run(1);
            Check.due("60000: segment 60 at 1000", x.downloaded(0), 61);
            x.stop();
            x.setParameter(Players.LIVE, 0);
            x.start();
            Check.due("0: latency", x.latency(), -1);
            x.run(1000);
            Check.due("0: nothing to catch up with", x.position(), 1000);
        });
        Check.sentence("Parameters", "target latency, 0 to 60000", () -> {
            // With a latency of the network of 1 it plays from millisecond 1 on.
            StreamPlayer x = Players.swift(80, Players.START, 1000, Players.LIVE, 60000);
            Players.set(x, Players.TARGET, 60000, Players.LOW, 0, Players.LATENCY, 1);
            Players.addVideo(x, 1);
            x.start();
            Check.due("60000: 60001 is above it", x.run(11), 11);
            Check.due("60000: 60000 is not", x.run(100), 111);
            x.stop();
            x.setParameter(Players.TARGET, 0);
            x.start();
            Check.due("0: it catches up again and again", x.run(111), 121);
        });
    }
}
