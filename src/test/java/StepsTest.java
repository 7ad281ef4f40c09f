/** What happens in each millisecond of a session, but for abandoned downloads and live streams. */
public final class StepsTest {
    private StepsTest() {
    }

    public static void main(String[] args) {
        beginning();
        choosingATrack();
        receiving();
        startAndResume();
        endAndStall();
        times();
        Check.end();
    }

    /** Segments of 8500, 9200 and 9900 bits; each comes within one millisecond. */
    private static StreamPlayer quick() {
        return Players.simple(10000);
    }

    private static void beginning() {
        Check.sentence("Session", "a time (0 at first), a position in the stream (0 at first)", () -> {
            StreamPlayer x = Situation.JUST_STARTED.make();
            Check.due("time", x.time(), 0);
            Check.due("position", x.position(), 0);
            StreamPlayer again = Situation.STOPPED.make();
            again.start();
            Check.due("time of a second session", again.time(), 0);
            Check.due("position of a second session", again.position(), 0);
        });
        Check.sentence("Session", "the smallest one of the tracks that have rungs",
            StepsTest::smallestBuffer);
        Check.sentence("Tracks", "Without rungs of audio, the stream has no audio.", () -> {
            StreamPlayer x = quick();
            x.start();
            x.run(3);
            Check.due("nothing waits for audio", x.position(), 3);
            Check.due("and nothing of it is downloaded", x.downloaded(1), 0);
            Check.due("it ends without", x.run(298), 300);
            Check.due("state", x.state(), 4);
        });
        Check.sentence("Network", "the plan begins at time 0 and is repeated without end",
            StepsTest::planOfASession);
    }

    /** Video of 8500 bits, then audio of 8800, then video again. Audio is never ahead of video. */
    private static void smallestBuffer() {
        StreamPlayer x = Players.simple(100);
        Players.addAudio(x, 100);
        x.start();
        x.run(172);
        Check.due("172: video", x.buffer(0), 100);
        Check.due("172: audio", x.buffer(1), 0);
        Check.due("172: it is audio's, so that nothing plays", x.state(), 1);
        x.run(1);
        Check.due("173: audio has come", x.state(), 2);
        // Video of 9200 bits is there with millisecond 264; position 100 is reached at 272.
        x.run(100);
        Check.due("273: video", x.buffer(0), 100);
        Check.due("273: audio", x.buffer(1), 0);
        Check.due("273: stalled for audio", x.state(), 3);
        StreamPlayer alone = Players.simple(100);
        alone.start();
        alone.run(85);
        Check.due("without audio it is video's", alone.state(), 2);
    }

    private static void planOfASession() {
        StreamPlayer x = Players.simple(0);
        x.clear();
        Players.addVideo(x, 100);
        x.addPhase(10, 70);
        x.addPhase(30, 0);
        x.addPhase(5, 1000);
        for (int session = 0; session < 2; session++) {
            x.start();
            x.run(1);
            Check.due("the first millisecond", x.received(), 70);
            x.run(9);
            Check.due("the first phase", x.received(), 700);
            x.run(30);
            Check.due("a phase without bits", x.received(), 700);
            x.run(5);
            Check.due("the third phase", x.received(), 5700);
            x.run(1);
            Check.due("the first one again", x.received(), 5770);
            x.run(9);
            Check.due("all of it", x.received(), 6400);
            x.run(32);
            Check.due("up to the third one again", x.received(), 8400);
            x.stop();
        }
    }

    private static void choosingATrack() {
        Check.sentence("Step 1", "If no download is going on", () -> {
            StreamPlayer x = Players.simple(100);
            Players.addAudio(x, 100);
            x.start();
            x.run(84);
            Check.due("video goes on", x.download(0), 0);
            Check.due("for 84 ms", x.download(4), 84);
            Check.due("and nothing of audio came meanwhile", x.downloaded(1), 0);
            x.run(1);
            Check.due("85: it is finished, but no other begins", x.download(0), -1);
            x.run(1);
            Check.due("86: now the next one goes on", x.download(0), 1);
            Check.due("86: for 1 ms", x.download(4), 1);
        });
        Check.sentence("Step 1", "a next segment that exists", () -> {
            StreamPlayer x = quick();
            x.start();
            x.run(2);
            Check.due("the last one is still to come", x.downloaded(0), 2);
            x.run(1);
            Check.due("the last one", x.downloaded(0), 3);
            x.run(50);
            Check.due("there is no more", x.downloaded(0), 3);
            Check.due("so no download", x.download(0), -1);
        });
        Check.sentence("Step 1", "a buffer that plus D is at most the cap", StepsTest::cap);
        Check.sentence("Step 1", "the one with the smaller number of the next segment is chosen", () -> {
            StreamPlayer x = quick();
            Players.addAudio(x, 10);
            x.start();
            x.run(1);
            Check.due("video has one", x.downloaded(0), 1);
            x.run(1);
            Check.due("so audio is next", x.downloaded(1), 1);
            x.run(3);
            Check.due("three of video", x.downloaded(0), 3);
            Check.due("two of audio", x.downloaded(1), 2);
            x.run(1);
            Check.due("audio is last, when video has no next one", x.downloaded(1), 3);
        });
        Check.sentence("Step 1", "video if these are equal", () -> {
            StreamPlayer x = quick();
            x.setParameter(Players.LATENCY, 1);
            Players.addAudio(x, 10);
            x.start();
            x.run(1);
            Check.due("at first", x.download(0), 0);
            x.run(3);
            Check.due("one of each", x.downloaded(0) + x.downloaded(1), 2);
            x.run(1);
            Check.due("then again", x.download(0), 0);
            Check.due("its segment", x.download(1), 1);
        });
    }

    private static void cap() {
        StreamPlayer x = Players.swift(5, Players.CAP, 2000);
        Players.addVideo(x, 1);
        x.start();
        x.run(1001);
        Check.due("the buffer was 1001 in the last millisecond", x.downloaded(0), 2);
        Check.due("so no download", x.download(1), -1);
        x.run(1);
        Check.due("now it was 1000", x.downloaded(0), 3);
        StreamPlayer exact = Players.swift(5, Players.CAP, 1000);
        Players.addVideo(exact, 1);
        exact.start();
        exact.run(100);
        Check.due("a segment as long as the cap", exact.downloaded(0), 1);
        StreamPlayer longer = Players.swift(5, Players.LENGTH, 1001, Players.CAP, 1000);
        Players.addVideo(longer, 1);
        longer.start();
        longer.run(5000);
        Check.due("a segment longer than the cap", longer.downloaded(0), 0);
        Check.due("which never begins", longer.state(), 1);
    }

    private static void receiving() {
        Check.sentence("Step 1", "Its waiting time is the latency; its duration is 0.", () -> {
            StreamPlayer x = Players.simple(100);
            x.setParameter(Players.LATENCY, 50);
            x.start();
            x.run(1);
            Check.due("waiting time, in step 2 one less", x.download(3), 49);
            Check.due("duration, in step 2 one more", x.download(4), 1);
        });
        Check.sentence("Step 2", "If its waiting time is not 0, this decreases by 1", () -> {
            StreamPlayer x = Players.simple(100);
            x.setParameter(Players.LATENCY, 2);
            x.start();
            int[] waiting = {1, 0, 0, 0};
            int[] received = {0, 0, 100, 200};
            for (int i = 0; i < waiting.length; i++) {
                x.run(1);
                Check.due("waiting time after " + (i + 1), x.download(3), waiting[i]);
                Check.due("bits after " + (i + 1), x.received(), received[i]);
            }
        });
        Check.sentence("Step 2", "but not more than it needs", () -> {
            StreamPlayer x = Players.simple(8501);
            x.start();
            x.run(1);
            Check.due("it is finished", x.downloaded(0), 1);
            Check.due("with its own bits", x.estimate(), 8500);
        });
        Check.sentence("Step 2", "If it has all its bits then, it is finished", () -> {
            StreamPlayer exact = Players.simple(8500);
            exact.start();
            exact.run(1);
            Check.due("just all", exact.downloaded(0), 1);
            Check.due("no download", exact.received(), -1);
            StreamPlayer missing = Players.simple(8499);
            missing.start();
            missing.run(1);
            Check.due("one is missing", missing.downloaded(0), 0);
            Check.due("one is missing: received", missing.received(), 8499);
            missing.run(1);
            Check.due("then it comes", missing.downloaded(0), 1);
        });
        Check.sentence("Step 2", "bits and duration are a sample", () -> {
            StreamPlayer x = Players.simple(100);
            x.setParameter(Players.LATENCY, 15);
            x.start();
            x.run(100);
            Check.due("8500 bits in 100 ms, with the waiting", x.estimate(), 85);
        });
    }

    /** Whether it plays after so many milliseconds, and not one earlier. */
    private static void playsFrom(String what, StreamPlayer x, int milliseconds) {
        int before = x.state();
        x.run(milliseconds - 1);
        Check.due(what + ": not yet", x.state(), before);
        x.run(1);
        Check.due(what + ": now", x.state(), 2);
    }

    private static void startAndResume() {
        // At 100 bits a millisecond the segments are there with milliseconds 84, 176 and 275.
        Check.sentence("Step 4", "at least the start threshold", () -> {
            int[] thresholds = {99, 100, 101, 200, 201};
            int[] plays = {85, 85, 177, 177, 276};
            for (int i = 0; i < thresholds.length; i++) {
                StreamPlayer x = Players.simple(100);
                Players.set(x, Players.START, thresholds[i], Players.RESUME, 0);
                x.start();
                playsFrom("threshold " + thresholds[i], x, plays[i]);
                Check.due("and the position increases at once", x.position(), 1);
            }
        });
        // At 50 they are with 169, 353 and 551; from a start threshold of 0 on, it stalls at once.
        Check.sentence("Step 4", "or the resume threshold", () -> {
            int[] thresholds = {99, 100, 101, 200, 201};
            int[] plays = {170, 170, 354, 354, 552};
            for (int i = 0; i < thresholds.length; i++) {
                StreamPlayer x = Players.simple(50);
                Players.set(x, Players.START, 0, Players.RESUME, thresholds[i]);
                x.start();
                x.run(1);
                Check.due("it is stalled", x.state(), 3);
                playsFrom("threshold " + thresholds[i], x, plays[i] - 1);
                Check.due("and the position increases at once", x.position(), 1);
            }
        });
        Check.sentence("Step 4", "or all segments of the tracks that have rungs are downloaded",
            StepsTest::allDownloaded);
    }

    private static void allDownloaded() {
        StreamPlayer x = Players.simple(100);
        x.setParameter(Players.START, 60000);
        x.start();
        playsFrom("video alone", x, 276);
        x.stop();
        Players.addAudio(x, 1);
        // Audio of 88, 95 and 102 bits takes 1, 1 and 2 ms.
        x.start();
        x.run(279);
        Check.due("all of video is there", x.downloaded(0), 3);
        Check.due("not all of audio", x.downloaded(1), 2);
        Check.due("so it does not start", x.state(), 1);
        x.run(1);
        Check.due("with the last one of audio it does", x.state(), 2);
        x.stop();
        Players.set(x, Players.START, 0, Players.RESUME, 60000);
        x.start();
        x.run(279);
        Check.due("nor does it resume", x.state(), 3);
        x.run(1);
        Check.due("but then", x.state(), 2);
    }

    private static void endAndStall() {
        Check.sentence("Step 4", "it becomes 4 if the position is the number of segments times D", () -> {
            StreamPlayer x = Players.simple(100);
            x.start();
            x.run(384);
            Check.due("384: position", x.position(), 300);
            Check.due("384: buffer", x.buffer(0), 0);
            Check.due("384: it still plays", x.state(), 2);
            x.run(1);
            Check.due("385: ended", x.state(), 4);
            Check.due("385: no stall", x.count(0), 0);
            x.run(1000);
            Check.due("it stays ended", x.state(), 4);
            Check.due("at the same position", x.position(), 300);
        });
        Check.sentence("Step 4", "and 3 otherwise", () -> {
            StreamPlayer x = Players.simple(50);
            x.start();
            x.run(269);
            Check.due("269: buffer", x.buffer(0), 0);
            Check.due("269: it still plays", x.state(), 2);
            x.run(1);
            Check.due("270: stalled", x.state(), 3);
            Check.due("270: position", x.position(), 100);
        });
        Check.sentence("Step 4", "if it is 2 and the buffer is not 0, the position increases by 1", () -> {
            StreamPlayer x = Players.simple(50);
            x.start();
            x.run(268);
            Check.due("268: the buffer is 1", x.buffer(0), 1);
            Check.due("269: that is enough", x.run(1), 100);
        });
        Check.sentence("Step 4", "A stall is each change of the state from 2 to 3.", () -> {
            StreamPlayer x = Players.simple(50);
            x.start();
            x.run(269);
            Check.due("none yet", x.count(0), 0);
            x.run(1);
            Check.due("one", x.count(0), 1);
            x.run(80);
            Check.due("however long it lasts", x.count(0), 1);
            x.run(2000);
            Check.due("two in all", x.count(0), 2);
            StreamPlayer atOnce = Players.simple(50);
            Players.set(atOnce, Players.START, 0, Players.RESUME, 0);
            atOnce.start();
            atOnce.run(5);
            Check.due("1 to 2 to 3, then 3 to 2 to 3", atOnce.count(0), 5);
        });
    }

    private static void times() {
        Check.sentence("Step 5", "If the state is 1, the start-up time increases by 1", () -> {
            spentAfter(84, 84, 0, 0);
            spentAfter(169, 169, 0, 0);
        });
        Check.sentence("Step 5", "if it is 2, the play time", () -> {
            spentAfter(170, 169, 0, 1);
            spentAfter(269, 169, 0, 100);
        });
        Check.sentence("Step 5", "if it is 3, the stall time", () -> {
            spentAfter(270, 169, 1, 100);
            spentAfter(353, 169, 84, 100);
            spentAfter(354, 169, 84, 101);
        });
        Check.sentence("Step 5", "if it is 4, nothing", () -> {
            spentAfter(651, 169, 182, 300);
            spentAfter(652, 169, 182, 300);
            spentAfter(20000, 169, 182, 300);
        });
        Check.sentence("Step 5", "The time increases by 1 (also if the state is 4).", () -> {
            StreamPlayer x = Players.simple(50);
            x.start();
            int[] spans = {1, 169, 200, 281, 1, 1, 20000};
            int time = 0;
            for (int span : spans) {
                x.run(span);
                time += span;
                Check.due("time", x.time(), time);
            }
            Check.due("ended", x.state(), 4);
        });
    }

    private static void spentAfter(int milliseconds, int startUp, int stalled, int played) {
        StreamPlayer x = Players.simple(50);
        x.start();
        x.run(milliseconds);
        Check.due(milliseconds + ": start-up time", x.spent(0), startUp);
        Check.due(milliseconds + ": stall time", x.spent(1), stalled);
        Check.due(milliseconds + ": play time", x.spent(2), played);
    }
}
