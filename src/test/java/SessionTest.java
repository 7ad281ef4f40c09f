/** Promises 8 to 18: a session, and what can be asked of it. RefusalTest has their exceptions. */
public final class SessionTest {
    private static final int LARGEST = Integer.MAX_VALUE;

    private SessionTest() {
    }

    public static void main(String[] args) {
        start();
        stop();
        run();
        stateTimePosition();
        tracks();
        download();
        Check.end();
    }

    private static void start() {
        Check.sentence("Promise 8", "Returns the number of segments.", () -> {
            int[] numbers = {30, 1, 200};
            for (int n : numbers) {
                StreamPlayer x = Players.simple(100);
                x.setParameter(Players.SEGMENTS, n);
                Check.due("start", x.start(), n);
            }
        });
        Check.sentence("Promise 8", "Starts a session.", () -> {
            StreamPlayer x = Players.simple(100);
            x.start();
            Check.due("fingerprint", x.fingerprint(), startedFingerprint());
            Check.due("no character yet", x.timeLine(0), -1);
            Check.due("next rung", x.nextRung(), 0);
            Check.due("score", x.score(), 0);
        });
        Check.sentence("Promise 8", "if there is a session, or there are no rungs of video, or no phases",
            SessionTest::leastThatStarts);
        Check.sentence("Promise 8, a second one", "Starts a session.", SessionTest::restart);
        Check.sentence("Promise 2, between sessions", "Sets a parameter.", () -> {
            StreamPlayer x = Players.simple(100);
            x.start();
            Check.due("thresholds of 100", x.run(100), 16);
            x.stop();
            x.setParameter(Players.START, 200);
            x.start();
            Check.due("now of 200", x.run(100), 0);
            x.stop();
            x.addPhase(1000, 0);
            x.start();
            x.run(1500);
            x.stop();
            x.clear();
            x.addRung(0, 1);
            x.addPhase(1, 85);
            x.start();
            x.run(1);
            Check.due("another ladder and plan", x.downloaded(0), 1);
        });
    }

    private static void leastThatStarts() {
        StreamPlayer x = new StreamPlayer();
        x.addRung(0, 1);
        x.addPhase(1, 0);
        Check.due("one rung of video and one phase are enough", x.start(), 30);
        Check.due("starting", x.state(), 1);
    }

    /** Of a session in which no time has passed. */
    private static long startedFingerprint() {
        long print = 31 * 59 + 1;
        int[] rest = {0, 0, 0, 0, -1, -1, -1, -1, -1, -1, 0, 0, 0, 0, 0, 0, 0, 0, 0, 0};
        for (int number : rest) {
            print = 31 * print + number;
        }
        return print;
    }

    /** A second session is like the first one of a new player, whatever the first one left. */
    private static void restart() {
        StreamPlayer x = restless();
        x.start();
        x.run(2000);
        Check.holds("much has been downloaded", x.downloaded(1) > 4);
        Check.holds("something has been abandoned", x.count(1) > 0);
        Check.holds("something has been switched", x.count(3) > 0);
        Check.holds("a download is going on", x.download(0) >= 0);
        x.stop();
        x.start();
        StreamPlayer y = restless();
        y.start();
        for (int i = 0; i < 20; i++) {
            Check.due("fingerprint at " + 57 * i, x.fingerprint(), y.fingerprint());
            Check.due("next rung at " + 57 * i, x.nextRung(), y.nextRung());
            Check.due("time line at " + 57 * i, x.timeLine(1), y.timeLine(1));
            Check.due("rung of audio " + i, x.rungOf(1, i), y.rungOf(1, i));
            x.run(57);
            y.run(57);
        }
    }

    private static StreamPlayer restless() {
        StreamPlayer x = new StreamPlayer();
        Players.set(x, Players.LENGTH, 100, Players.SEGMENTS, 60, Players.LATENCY, 3);
        Players.set(x, Players.START, 200, Players.RESUME, 100, Players.LOW, 0, Players.HIGH, 500);
        Players.set(x, Players.WINDOW, 10, Players.HOLD, 150, Players.GRACE, 20, Players.MODE, 1);
        x.setParameter(Players.CAP, 1000);
        Players.addVideo(x, 100, 300, 900);
        Players.addAudio(x, 10, 20);
        x.addPhase(700, 900);
        x.addPhase(1000, 5);
        return x;
    }

    private static void stop() {
        Check.sentence("Promise 9", "Returns its time.", () -> {
            int[] times = {0, 1, 123, 384, 385, 20000};
            for (int time : times) {
                StreamPlayer x = Players.simple(100);
                x.start();
                x.run(time);
                Check.due("stop", x.stop(), time);
            }
        });
        Check.sentence("Promise 9", "Ends the session.", () -> {
            for (Situation situation : Situation.WITH_SESSION) {
                StreamPlayer x = situation.make();
                x.stop();
                Check.due(situation + ": state", x.state(), 0);
                Check.due(situation + ": fingerprint", x.fingerprint(), 31 * 59);
                Check.same(situation + ": all", Snapshot.of(x), Snapshot.of(Situation.READY.make()));
            }
        });
    }

    private static void run() {
        Check.sentence("Promise 10", "milliseconds: 0 to 20000", () -> {
            StreamPlayer x = Players.simple(100);
            x.start();
            Check.due("0", x.run(0), 0);
            Check.due("0: no time passes", x.time(), 0);
            Check.due("0: no download begins", x.download(0), -1);
            Check.due("0: no character", x.timeLine(0), -1);
            x.run(1);
            Check.due("1: time", x.time(), 1);
            Check.due("1: a download begins", x.download(0), 0);
            Check.due("20000", x.run(20000), 300);
            Check.due("20000: time", x.time(), 20001);
        });
        Check.sentence("Promise 10", "Returns the position then.", () -> {
            int[] spans = {0, 84, 85, 86, 177, 384, 385, 20000};
            int[] due = {0, 0, 1, 2, 93, 300, 300, 300};
            for (int i = 0; i < spans.length; i++) {
                StreamPlayer x = Players.simple(100);
                x.start();
                Check.due("run(" + spans[i] + ")", x.run(spans[i]), due[i]);
            }
        });
        Check.sentence("Promise 10", "Lets time pass.", () -> {
            StreamPlayer atOnce = restless();
            StreamPlayer bySteps = restless();
            atOnce.start();
            bySteps.start();
            atOnce.run(120);
            for (int i = 0; i < 120; i++) {
                bySteps.run(0);
                bySteps.run(1);
            }
            Check.due("in one call or in many", bySteps.fingerprint(), atOnce.fingerprint());
        });
        Check.sentence("Promise 10", "its time would become greater than 10000000", () -> {
            // RefusalTest has what is refused there; this is the last millisecond that passes.
            StreamPlayer x = new StreamPlayer();
            x.addRung(0, 1);
            x.addPhase(1, 0);
            x.start();
            for (int i = 0; i < 500; i++) {
                x.run(20000);
            }
            Check.due("up to 10000000", x.time(), 10000000);
            Check.due("start-up time", x.spent(0), 10000000);
            Check.due("duration", x.download(4), 10000000);
            Check.due("a forecast looks beyond it", x.forecast(20000, 0), 1);
        });
    }

    private static void stateTimePosition() {
        Check.sentence("Promise 11", "Returns 0 to 4.", () -> {
            int[] times = {0, 169, 170, 269, 270, 353, 354, 651, 652, 20000};
            int[] due = {1, 1, 2, 2, 3, 3, 2, 2, 4, 4};
            StreamPlayer x = Players.simple(50);
            Check.due("no session", x.state(), 0);
            x.start();
            for (int i = 0; i < times.length; i++) {
                x.run(times[i] - x.time());
                Check.due("state at " + times[i], x.state(), due[i]);
            }
            x.stop();
            Check.due("no session again", x.state(), 0);
        });
        Check.sentence("Promise 12", "Returns the time.", () -> {
            StreamPlayer x = Players.simple(50);
            x.start();
            Check.due("at first", x.time(), 0);
            x.run(1);
            Check.due("1", x.time(), 1);
            x.run(20000);
            Check.due("ended", x.time(), 20001);
        });
        Check.sentence("Promise 13", "Returns the position.", () -> {
            int[] times = {0, 169, 170, 269, 270, 353, 354, 651, 652, 20000};
            int[] due = {0, 0, 1, 100, 100, 100, 101, 300, 300, 300};
            StreamPlayer x = Players.simple(50);
            x.start();
            for (int i = 0; i < times.length; i++) {
                x.run(times[i] - x.time());
                Check.due("position at " + times[i], x.position(), due[i]);
            }
        });
    }

    private static void tracks() {
        Check.sentence("Promise 14", "Returns the buffer in milliseconds", () -> {
            StreamPlayer x = Players.simple(100);
            Players.addAudio(x, 1);
            x.start();
            int[] times = {0, 84, 85, 86, 87};
            int[] video = {0, 0, 100, 99, 98};
            int[] audio = {0, 0, 0, 99, 98};
            for (int i = 0; i < times.length; i++) {
                x.run(times[i] - x.time());
                Check.due("video at " + times[i], x.buffer(0), video[i]);
                Check.due("audio at " + times[i], x.buffer(1), audio[i]);
            }
            x.run(20000);
            Check.due("video, ended", x.buffer(0), 0);
            Check.due("audio, ended", x.buffer(1), 0);
        });
        Check.sentence("Promise 14", "0 if the track has no rungs", () -> {
            StreamPlayer x = Players.simple(100);
            x.start();
            Check.due("at once", x.buffer(1), 0);
            x.run(100);
            Check.due("when the position is 16", x.buffer(1), 0);
            x.run(1000);
            Check.due("in the end", x.buffer(1), 0);
        });
        Check.sentence("Promise 15", "Returns the number of segments.", () -> {
            StreamPlayer x = Players.simple(10000);
            x.start();
            for (int i = 0; i < 5; i++) {
                Check.due("video after " + i, x.downloaded(0), Math.min(i, 3));
                Check.due("without rungs of audio " + i, x.downloaded(1), 0);
                x.run(1);
            }
            x.stop();
            Players.addAudio(x, 1);
            x.start();
            for (int i = 0; i < 8; i++) {
                Check.due("with audio: video after " + i, x.downloaded(0), Math.min((i + 1) / 2, 3));
                Check.due("with audio: audio after " + i, x.downloaded(1), Math.min(i / 2, 3));
                x.run(1);
            }
        });
        Check.sentence("Promise 16", "-1 if it is not downloaded", SessionTest::notDownloaded);
    }

    private static void notDownloaded() {
        StreamPlayer x = Players.simple(100);
        x.start();
        Check.due("at once", x.rungOf(0, 0), -1);
        x.run(84);
        Check.due("while it is coming", x.rungOf(0, 0), -1);
        x.run(1);
        Check.due("when it is there", x.rungOf(0, 0), 0);
        Check.due("the next one", x.rungOf(0, 1), -1);
        x.run(300);
        Check.due("the last one", x.rungOf(0, 2), 0);
        Check.due("behind the last one", x.rungOf(0, 3), -1);
        Check.due("behind all that there can be", x.rungOf(0, 200), -1);
        Check.due("the greatest number", x.rungOf(0, LARGEST), -1);
        Check.due("a track without rungs", x.rungOf(1, 0), -1);
        Check.due("a track without rungs, the greatest number", x.rungOf(1, LARGEST), -1);
        x.stop();
        x.start();
        Check.due("in a second session", x.rungOf(0, 0), -1);
    }

    private static void facts(String what, StreamPlayer x, int... due) {
        for (int i = 0; i < due.length; i++) {
            Check.due(what + ": " + i, x.download(i), due[i]);
        }
    }

    private static void download() {
        Check.sentence("Promise 17", "what: 0 its track, 1 its segment, 2 its rung, 3 its waiting time, "
            + "4 its duration", () -> {
                StreamPlayer x = Players.swift(9, Players.LATENCY, 30, Players.MODE, 1);
                Players.set(x, Players.LOW, 0, Players.HIGH, 0, Players.START, 60000);
                Players.addVideo(x, 1, 2, 3);
                Players.addAudio(x, 1, 2);
                x.start();
                x.run(1);
                facts("the first one", x, 0, 0, 0, 29, 1);
                x.run(30);
                facts("it is there", x, -1, -1, -1, -1, -1);
                x.run(8);
                facts("of audio, of rung 1", x, 1, 0, 1, 22, 8);
                x.run(23);
                x.run(31);
                x.run(12);
                facts("of audio again", x, 1, 1, 1, 18, 12);
                x.run(19 + 31);
                x.run(31);
                x.run(2);
                facts("of rung 2", x, 0, 3, 2, 28, 2);
            });
        Check.sentence("Promise 17", "-1 if no download is going on", () -> {
            StreamPlayer x = Players.simple(100);
            x.start();
            facts("before the first millisecond", x, -1, -1, -1, -1, -1);
            x.run(85);
            facts("one has just finished", x, -1, -1, -1, -1, -1);
            x.run(1000);
            facts("ended", x, -1, -1, -1, -1, -1);
        });
        Check.sentence("Promise 18", "Returns the number of bits; -1 if no download is going on.", () -> {
            StreamPlayer x = Players.simple(100);
            x.setParameter(Players.LATENCY, 3);
            x.start();
            Check.due("before the first millisecond", x.received(), -1);
            x.run(3);
            Check.due("waiting", x.received(), 0);
            x.run(1);
            Check.due("the first bits", x.received(), 100);
            x.run(83);
            Check.due("nearly all", x.received(), 8400);
            x.run(1);
            Check.due("finished", x.received(), -1);
            x.run(1);
            Check.due("the next one waits", x.received(), 0);
            x.run(1000);
            Check.due("ended", x.received(), -1);
        });
    }
}
