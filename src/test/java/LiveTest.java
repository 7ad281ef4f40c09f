/** Live streams: what is available, the latency, and catching up. */
public final class LiveTest {
    private LiveTest() {
    }

    public static void main(String[] args) {
        availability();
        latency();
        catchingUp();
        Check.end();
    }

    private static void availability() {
        Check.sentence("Segments", "If the live delay L is 0, all segments are available at once", () -> {
            StreamPlayer x = Players.swift(200, Players.LENGTH, 100, Players.START, 60000);
            Players.addVideo(x, 1);
            x.start();
            x.run(199);
            Check.due("one a millisecond", x.downloaded(0), 199);
            x.run(1);
            Check.due("up to the last one", x.downloaded(0), 200);
        });
        Check.sentence("Segments", "segment i is available from the time (i + 1) * D - L on",
            LiveTest::availableFrom);
        Check.sentence("Step 1", "is available at t", () -> {
            StreamPlayer x = Players.swift(3, Players.LENGTH, 100, Players.LIVE, 1, Players.LATENCY, 5);
            Players.addVideo(x, 1);
            Players.addAudio(x, 1);
            x.start();
            x.run(99);
            Check.due("no download at 98", x.download(0), -1);
            x.run(1);
            Check.due("one at 99", x.download(0), 0);
            x.run(12);
            Check.due("both tracks have one", x.downloaded(0) + x.downloaded(1), 2);
            Check.due("and wait for the next", x.download(0), -1);
            x.run(87);
            Check.due("no download at 198", x.download(0), -1);
            x.run(1);
            Check.due("one at 199", x.download(1), 1);
        });
    }

    private static void availableFrom() {
        StreamPlayer x = Players.swift(3, Players.LENGTH, 100, Players.LIVE, 1);
        Players.addVideo(x, 1);
        x.start();
        int[] times = {99, 100, 199, 200, 299, 300, 400};
        int[] due = {0, 1, 1, 2, 2, 3, 3};
        for (int i = 0; i < times.length; i++) {
            x.run(times[i] - x.time());
            Check.due("delay 1, after " + times[i], x.downloaded(0), due[i]);
        }
        // The first three are available before the time 0, the fourth one from 50 on.
        StreamPlayer y = Players.swift(9, Players.LENGTH, 100, Players.LIVE, 350);
        Players.addVideo(y, 1);
        y.start();
        y.run(3);
        Check.due("delay 350, before 0", y.downloaded(0), 3);
        y.run(47);
        Check.due("delay 350, up to 49", y.downloaded(0), 3);
        y.run(1);
        Check.due("delay 350, at 50", y.downloaded(0), 4);
        StreamPlayer z = Players.swift(9, Players.LENGTH, 100, Players.LIVE, 300);
        Players.addVideo(z, 1);
        z.start();
        z.run(3);
        Check.due("delay 300, at 0", z.downloaded(0), 3);
    }

    private static void latency() {
        Check.sentence("Promise 21", "Returns time + L - position", () -> {
            StreamPlayer x = Players.simple(100);
            x.setParameter(Players.LIVE, 60000);
            x.start();
            Check.due("at once", x.latency(), 60000);
            x.run(185);
            Check.due("playing", x.latency(), 60000 + 185 - 101);
            x.run(1000);
            Check.due("ended", x.latency(), 60000 + 1185 - 300);
        });
        Check.sentence("Promise 21", "-1 if the stream is not live", () -> {
            StreamPlayer x = Players.simple(100);
            x.start();
            Check.due("at once", x.latency(), -1);
            x.run(200);
            Check.due("playing", x.latency(), -1);
            x.run(1000);
            Check.due("ended", x.latency(), -1);
        });
        Check.sentence("Segments", "otherwise (the stream is live)", () -> {
            StreamPlayer x = Players.simple(100);
            x.setParameter(Players.LIVE, 1);
            x.start();
            Check.due("with the least delay", x.latency(), 1);
            x.run(7);
            Check.due("7 later", x.latency(), 8);
        });
    }

    /** Ten segments are available at once; playing starts with the fifth, in millisecond 4. */
    private static StreamPlayer behind(int target, int low) {
        StreamPlayer x = Players.swift(50, Players.LENGTH, 100, Players.LIVE, 1000);
        Players.set(x, Players.START, 500, Players.TARGET, target, Players.LOW, low);
        Players.addVideo(x, 1);
        x.start();
        return x;
    }

    private static void catchingUp() {
        Check.sentence("Catching up", "if it is live", () -> {
            StreamPlayer x = Players.swift(50, Players.LENGTH, 100, Players.START, 500);
            Players.set(x, Players.TARGET, 0, Players.LOW, 0);
            Players.addVideo(x, 1);
            x.start();
            Check.due("not live: never by 2", x.run(500), 496);
            Check.holds("live: by 2", behind(0, 0).run(500) > 496);
        });
        Check.sentence("Catching up", "is greater than the target latency", LiveTest::target);
        Check.sentence("Catching up", "the buffer is at least the low buffer", () -> {
            // The buffer is 994 at 10.
            Check.due("it is the low buffer", behind(700, 994).run(11), 8);
            Check.due("one is missing", behind(700, 995).run(11), 7);
        });
        Check.sentence("Catching up", "t is divisible by 10", () -> {
            StreamPlayer x = behind(700, 100);
            Check.due("10", x.run(10), 6);
            Check.due("11: by 2", x.run(1), 8);
            Check.due("20: by 1", x.run(9), 17);
            Check.due("21: by 2", x.run(1), 19);
            Check.due("22: by 1", x.run(1), 20);
            x.stop();
            x.setParameter(Players.START, 100);
            x.start();
            Check.due("also at 0", x.run(1), 2);
        });
        Check.sentence("Step 4", "or by 2 if the buffer is at least 2 and the stream is catching up",
            LiveTest::smallBuffer);
    }

    /** Playing starts in millisecond 4, so that the latency is 1004 from then on. */
    private static void target() {
        StreamPlayer never = behind(1004, 100);
        never.run(500);
        Check.due("not above the target", never.latency(), 1004);
        StreamPlayer once = behind(1003, 100);
        once.run(10);
        Check.due("one above it", once.latency(), 1004);
        once.run(1);
        Check.due("by 2 once", once.latency(), 1003);
        once.run(489);
        Check.due("then no more", once.latency(), 1003);
        StreamPlayer x = behind(700, 100);
        x.run(3040);
        Check.due("3040", x.latency(), 701);
        x.run(1);
        Check.due("3041: the last time", x.latency(), 700);
        x.run(200);
        Check.due("the target is reached", x.latency(), 700);
    }

    /** Position 99 is reached at 190, when the buffer is 1 and the next segment comes at 199. */
    private static void smallBuffer() {
        StreamPlayer x = almostEmpty(100, 1);
        Check.due("101: by 2 at once", x.run(101), 2);
        Check.due("190", x.run(89), 99);
        Check.due("190: buffer", x.buffer(0), 1);
        Check.due("191: by 1 only", x.run(1), 100);
        Check.due("191: state", x.state(), 2);
        x.run(1);
        Check.due("192: state", x.state(), 3);
        StreamPlayer y = almostEmpty(101, 2);
        Check.due("190 with 101", y.run(190), 99);
        Check.due("190 with 101: buffer", y.buffer(0), 2);
        Check.due("191 with 101: by 2", y.run(1), 101);
        Check.due("191 with 101: buffer", y.buffer(0), 0);
    }

    private static StreamPlayer almostEmpty(int length, int delay) {
        StreamPlayer x = Players.swift(3, Players.LENGTH, length, Players.LIVE, delay);
        Players.set(x, Players.LATENCY, 1, Players.LOW, 0, Players.START, 100, Players.RESUME, 100);
        x.setParameter(Players.TARGET, 0);
        Players.addVideo(x, 1);
        x.start();
        return x;
    }
}
