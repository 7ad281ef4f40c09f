/** Promises 8 to 21: a session and the rules by which its time passes. */
public final class SessionTest {
    private static final Class<IndexOutOfBoundsException> INDEX = IndexOutOfBoundsException.class;
    private static final Class<IllegalArgumentException> ARGUMENT = IllegalArgumentException.class;
    private static final Class<IllegalStateException> STATE = IllegalStateException.class;
    private static final int[] NOT_TRACKS = {-1, 2, Integer.MIN_VALUE, Integer.MAX_VALUE};

    private SessionTest() {
    }

    public static void main(String[] args) {
        start();
        stop();
        restart();
        run();
        runLimits();
        statesFromStartToEnd();
        stallAndResume();
        allDownloadedStarts();
        buffersAndDownloads();
        wrongArguments();
        waiting();
        changingNetwork();
        cap();
        Check.end();
    }

    private static void start() {
        StreamPlayer x = new StreamPlayer();
        x.addPhase(10, 10);
        x.addRung(1, 10);
        Check.fails("start without video", STATE, x::start);
        x.clear();
        x.addRung(0, 10);
        Check.fails("start without phases", STATE, x::start);
        x.addPhase(10, 0);
        Check.due("start", x.start(), 30);
        Check.due("started: state", x.state(), 1);
        Check.due("started: time", x.time(), 0);
        Check.due("started: position", x.position(), 0);
        Check.due("started: downloaded", x.downloaded(0), 0);
        Check.due("started: no download yet", x.download(0), -1);
        Check.due("started: estimate", x.estimate(), 0);
        Check.due("started: time line", x.timeLine(0), -1);
        Check.fails("start in a session", STATE, x::start);
        x.stop();
        x.setParameter(1, 200);
        Check.due("start with 200 segments", x.start(), 200);
        StreamPlayer y = Players.simple(1000);
        y.start();
        y.run(500);
        Check.due("ended", y.state(), 4);
        Check.fails("start in an ended session", STATE, y::start);
    }

    private static void stop() {
        StreamPlayer x = Players.simple(100);
        Check.fails("stop before a start", STATE, x::stop);
        x.start();
        x.run(123);
        Check.due("stop", x.stop(), 123);
        Check.due("stopped: state", x.state(), 0);
        Check.fails("stop again", STATE, x::stop);
        everyQuestionIsRefused(x);
        Check.due("start anew", x.start(), 3);
        Check.due("anew: fingerprint", x.fingerprint(), startedFingerprint());
        Check.due("anew: nothing downloaded", x.rungOf(0, 0), -1);
        Check.due("anew: time line", x.timeLine(0), -1);
        Check.due("anew: next rung", x.nextRung(), 0);
        Check.due("stop at once", x.stop(), 0);
    }

    /** A second session is like the first one of a new player, whatever the first one left. */
    private static void restart() {
        StreamPlayer x = restless();
        x.start();
        x.run(2000);
        Check.due("much has been downloaded", x.downloaded(1) > 4 ? 1 : 0, 1);
        Check.due("something has been abandoned", x.count(1) > 0 ? 1 : 0, 1);
        Check.due("something has been switched", x.count(3) > 0 ? 1 : 0, 1);
        Check.due("a download is going on", x.download(0) >= 0 ? 1 : 0, 1);
        x.stop();
        x.start();
        StreamPlayer y = restless();
        y.start();
        for (int i = 0; i < 20; i++) {
            Check.due("restarted " + x.time(), x.fingerprint(), y.fingerprint());
            Check.due("restarted: next rung " + x.time(), x.nextRung(), y.nextRung());
            Check.due("restarted: audio " + x.time(), x.rungOf(1, i), y.rungOf(1, i));
            x.run(57);
            y.run(57);
        }
    }

    private static StreamPlayer restless() {
        StreamPlayer x = new StreamPlayer();
        Players.set(x, Players.LENGTH, 100, Players.SEGMENTS, 60, Players.LATENCY, 3);
        Players.set(x, Players.START, 200, Players.RESUME, 100, Players.LOW, 0, Players.HIGH, 500);
        Players.set(x, Players.WINDOW, 10, Players.HOLD, 150, Players.GRACE, 20, Players.MODE, 1);
        x.setParameter(Players.CAP, 1000);
        Players.addVideo(x, 100, 300, 900);
        Players.addAudio(x, 10, 20);
        x.addPhase(700, 900);
        x.addPhase(1000, 5);
        return x;
    }

    private static void everyQuestionIsRefused(StreamPlayer x) {
        Check.fails("run", STATE, () -> x.run(0));
        Check.fails("time", STATE, x::time);
        Check.fails("position", STATE, x::position);
        Check.fails("buffer", STATE, () -> x.buffer(0));
        Check.fails("downloaded", STATE, () -> x.downloaded(1));
        Check.fails("rungOf", STATE, () -> x.rungOf(0, 0));
        Check.fails("download", STATE, () -> x.download(0));
        Check.fails("received", STATE, x::received);
        Check.fails("estimate", STATE, x::estimate);
        Check.fails("nextRung", STATE, x::nextRung);
        Check.fails("latency", STATE, x::latency);
        Check.fails("spent", STATE, () -> x.spent(0));
        Check.fails("count", STATE, () -> x.count(0));
        Check.fails("wasted", STATE, x::wasted);
        Check.fails("quality", STATE, x::quality);
        Check.fails("score", STATE, x::score);
        Check.fails("timeLine", STATE, () -> x.timeLine(0));
        Check.fails("forecast", STATE, () -> x.forecast(0, 0));
    }

    /** Of a session in which no time has passed. */
    private static long startedFingerprint() {
        long print = 31 * 59 + 1;
        int[] rest = {0, 0, 0, 0, -1, -1, -1, -1, -1, -1, 0, 0, 0, 0, 0, 0, 0, 0, 0, 0};
        for (int number : rest) {
            print = 31 * print + number;
        }
        return print;
    }

    private static void run() {
        StreamPlayer x = Players.simple(100);
        Check.fails("run: argument before state", ARGUMENT, () -> x.run(-1));
        Check.fails("run: no session", STATE, () -> x.run(1));
        x.start();
        Check.fails("run(-1)", ARGUMENT, () -> x.run(-1));
        Check.fails("run(20001)", ARGUMENT, () -> x.run(20001));
        Check.fails("run, greatest int", ARGUMENT, () -> x.run(Integer.MAX_VALUE));
        Check.due("run(0)", x.run(0), 0);
        Check.due("run(0): time", x.time(), 0);
        Check.due("run(0): no download begins", x.download(0), -1);
        Check.due("run(84)", x.run(84), 0);
        Check.due("run(1): plays", x.run(1), 1);
        Check.due("run(91)", x.run(91), 92);
        Check.due("run(20000)", x.run(20000), 300);
        Check.due("run(20000): time", x.time(), 20176);
    }

    private static void runLimits() {
        StreamPlayer x = Players.simple(0);
        x.start();
        for (int i = 0; i < 499; i++) {
            x.run(20000);
        }
        x.run(19999);
        Check.fails("beyond the last time", STATE, () -> x.run(2));
        Check.fails("argument first", ARGUMENT, () -> x.run(20001));
        Check.due("one before the last time", x.time(), 9999999);
        x.run(1);
        Check.due("the last time", x.time(), 10000000);
        Check.fails("beyond it", STATE, () -> x.run(1));
        Check.due("no time passes at the last time", x.run(0), 0);
        Check.due("a forecast goes beyond it", x.forecast(20000, 0), 1);
        Check.due("start-up time", x.spent(0), 10000000);
        Check.due("duration", x.download(4), 10000000);
    }

    private static void statesFromStartToEnd() {
        StreamPlayer x = Players.simple(100);
        x.start();
        x.run(84);
        Check.due("84: state", x.state(), 1);
        Check.due("84: downloaded", x.downloaded(0), 0);
        Check.due("84: duration", x.download(4), 84);
        Check.due("84: received", x.received(), 8400);
        x.run(1);
        Check.due("85: state", x.state(), 2);
        Check.due("85: position", x.position(), 1);
        Check.due("85: downloaded", x.downloaded(0), 1);
        Check.due("85: buffer", x.buffer(0), 99);
        Check.due("85: estimate", x.estimate(), 100);
        Check.due("85: no download", x.download(4), -1);
        Check.due("85: received", x.received(), -1);
        x.run(91);
        Check.due("176: downloaded", x.downloaded(0), 1);
        x.run(1);
        Check.due("177: downloaded", x.downloaded(0), 2);
        Check.due("177: buffer", x.buffer(0), 107);
        x.run(207);
        Check.due("384: position", x.position(), 300);
        Check.due("384: state", x.state(), 2);
        Check.due("384: buffer", x.buffer(0), 0);
        x.run(1);
        Check.due("385: state", x.state(), 4);
        Check.due("385: time", x.time(), 385);
        x.run(1000);
        Check.due("1385: state", x.state(), 4);
        Check.due("1385: position", x.position(), 300);
        Check.due("1385: time", x.time(), 1385);
        Check.due("1385: downloaded", x.downloaded(0), 3);
        Check.due("1385: stalls", x.count(0), 0);
    }

    /** At 50 bits a millisecond the segments take 170, 184 and 198 ms. */
    private static void stallAndResume() {
        StreamPlayer x = Players.simple(50);
        x.start();
        x.run(269);
        Check.due("269: state", x.state(), 2);
        Check.due("269: position", x.position(), 100);
        x.run(1);
        Check.due("270: state", x.state(), 3);
        Check.due("270: position", x.position(), 100);
        x.run(83);
        Check.due("353: state", x.state(), 3);
        x.run(1);
        Check.due("354: state", x.state(), 2);
        Check.due("354: position", x.position(), 101);
        Check.due("354: stall time", x.spent(1), 84);
        x.stop();
        x.setParameter(Players.RESUME, 101);
        x.start();
        x.run(551);
        Check.due("the resume threshold is not reached", x.state(), 3);
        Check.due("two are downloaded", x.downloaded(0), 2);
        x.run(1);
        Check.due("the resume threshold is reached", x.state(), 2);
        Check.due("the resume threshold: position", x.position(), 101);
        x.stop();
        Players.set(x, Players.START, 0, Players.RESUME, 60000);
        x.start();
        x.run(1);
        Check.due("start threshold 0: stalled at once", x.state(), 3);
        Check.due("start threshold 0: a stall", x.count(0), 1);
        x.run(550);
        Check.due("resume threshold out of reach", x.state(), 3);
        x.run(1);
        Check.due("but all segments are there", x.state(), 2);
        Check.due("but all segments are there: position", x.position(), 1);
    }

    private static void allDownloadedStarts() {
        StreamPlayer x = Players.simple(100);
        x.setParameter(Players.START, 60000);
        Players.addAudio(x, 1);
        // Audio of 88, 95 and 102 bits takes 1, 1 and 2 ms: all is there with millisecond 279.
        x.start();
        x.run(279);
        Check.due("279: video is there", x.downloaded(0), 3);
        Check.due("279: audio is not", x.downloaded(1), 2);
        Check.due("279: state", x.state(), 1);
        x.run(1);
        Check.due("280: state", x.state(), 2);
        Check.due("280: position", x.position(), 1);
        x.run(299);
        Check.due("579: position", x.position(), 300);
        x.run(1);
        Check.due("580: state", x.state(), 4);
    }

    private static void buffersAndDownloads() {
        StreamPlayer x = Players.swift(4);
        Players.addVideo(x, 1);
        x.start();
        x.run(1);
        Check.due("no audio: buffer", x.buffer(1), 0);
        Check.due("no audio: downloaded", x.downloaded(1), 0);
        Check.due("no audio: rungOf", x.rungOf(1, 0), -1);
        x.stop();
        Players.addAudio(x, 1);
        x.start();
        int[] video = {1, 1, 2, 2, 3, 3, 4, 4, 4};
        int[] audio = {0, 1, 1, 2, 2, 3, 3, 4, 4};
        for (int i = 0; i < video.length; i++) {
            x.run(1);
            Check.due("video after " + i, x.downloaded(0), video[i]);
            Check.due("audio after " + i, x.downloaded(1), audio[i]);
            Check.due("playing waits for both " + i, x.state(), i < 3 ? 1 : 2);
        }
        Check.due("buffer of video", x.buffer(0), 3994);
        Check.due("buffer of audio", x.buffer(1), 3994);
        Check.due("rung of the last segment", x.rungOf(0, 3), 0);
        Check.due("rung of the segment behind", x.rungOf(0, 4), -1);
        Check.due("rung of a far segment", x.rungOf(1, Integer.MAX_VALUE), -1);
        stallForAudio();
    }

    /** Video is there, but playing stalls for want of audio. */
    private static void stallForAudio() {
        StreamPlayer x = Players.simple(100);
        Players.addAudio(x, 100);
        x.start();
        // Audio of 8800 bits follows video of 8500.
        x.run(85);
        Check.due("video is there", x.buffer(0), 100);
        Check.due("audio is not", x.buffer(1), 0);
        Check.due("the smaller buffer counts", x.state(), 1);
        Check.due("the download is audio's", x.download(0), -1);
        x.run(1);
        Check.due("now it is", x.download(0), 1);
        x.run(87);
        Check.due("173: both are there", x.state(), 2);
        // Video of 9200 bits ends with millisecond 264; position 100 is reached at 272.
        x.run(100);
        Check.due("273: stalled for audio", x.state(), 3);
        Check.due("273: video has a buffer", x.buffer(0), 100);
        Check.due("273: audio has none", x.buffer(1), 0);
    }

    private static void wrongArguments() {
        StreamPlayer x = Players.simple(100);
        for (int round = 0; round < 2; round++) {
            for (int t : NOT_TRACKS) {
                Check.fails("buffer " + t, INDEX, () -> x.buffer(t));
                Check.fails("downloaded " + t, INDEX, () -> x.downloaded(t));
                Check.fails("rungOf " + t, INDEX, () -> x.rungOf(t, 0));
            }
            Check.fails("rungOf, segment -1", INDEX, () -> x.rungOf(0, -1));
            Check.fails("rungOf, least int", INDEX, () -> x.rungOf(1, Integer.MIN_VALUE));
            Check.fails("download -1", INDEX, () -> x.download(-1));
            Check.fails("download 5", INDEX, () -> x.download(5));
            Check.fails("download, greatest int", INDEX, () -> x.download(Integer.MAX_VALUE));
            if (round == 0) {
                x.start();
            }
        }
    }

    private static void waiting() {
        StreamPlayer x = Players.simple(100);
        x.setParameter(Players.LATENCY, 50);
        x.start();
        x.run(1);
        int[] atOnce = {0, 0, 0, 49, 1};
        for (int what = 0; what < atOnce.length; what++) {
            Check.due("waiting: download " + what, x.download(what), atOnce[what]);
        }
        Check.due("waiting: received", x.received(), 0);
        x.run(49);
        Check.due("50: waiting time", x.download(3), 0);
        Check.due("50: received", x.received(), 0);
        x.run(1);
        Check.due("51: waiting time", x.download(3), 0);
        Check.due("51: received", x.received(), 100);
        Check.due("51: duration", x.download(4), 51);
        x.run(84);
        Check.due("135: downloaded", x.downloaded(0), 1);
        // 8500 bits in 135 ms
        Check.due("135: estimate", x.estimate(), 62);
        x.run(1);
        Check.due("136: next segment", x.download(1), 1);
        Check.due("136: its waiting time", x.download(3), 49);
    }

    private static void changingNetwork() {
        StreamPlayer x = Players.simple(0);
        x.clear();
        Players.addVideo(x, 100);
        x.addPhase(10, 70);
        x.addPhase(30, 0);
        x.addPhase(5, 1000);
        x.start();
        x.run(10);
        Check.due("first phase", x.received(), 700);
        x.run(30);
        Check.due("a phase without bits", x.received(), 700);
        x.run(5);
        Check.due("third phase", x.received(), 5700);
        x.run(11);
        Check.due("the first one again", x.received(), 6400);
        x.run(31);
        Check.due("the second and the third again", x.received(), 8400);
        x.run(1);
        // No more is received than is needed.
        Check.due("88: downloaded", x.downloaded(0), 1);
        Check.due("88: estimate", x.estimate(), 8500 / 88);
    }

    private static void cap() {
        StreamPlayer x = Players.swift(5, Players.CAP, 2000);
        Players.addVideo(x, 1);
        x.start();
        x.run(1001);
        Check.due("the buffer is full", x.downloaded(0), 2);
        Check.due("the buffer is full: no download", x.download(1), -1);
        Check.due("position", x.position(), 1000);
        x.run(1);
        Check.due("there is room for one", x.downloaded(0), 3);
        StreamPlayer y = Players.swift(5, Players.LENGTH, 1001, Players.CAP, 1000);
        Players.addVideo(y, 1);
        y.start();
        y.run(5000);
        Check.due("a segment longer than the cap never begins", y.downloaded(0), 0);
        Check.due("a segment longer than the cap: state", y.state(), 1);
    }
}
