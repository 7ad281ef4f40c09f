/** Promise 21 and the rules of a live stream: what is available, and catching up. */
public final class LiveTest {
    private LiveTest() {
    }

    public static void main(String[] args) {
        latency();
        availability();
        catchingUp();
        lowBuffer();
        smallBuffer();
        Check.end();
    }

    private static void latency() {
        StreamPlayer x = Players.simple(100);
        Check.fails("latency without a session", IllegalStateException.class, x::latency);
        x.start();
        x.run(200);
        Check.due("not live", x.latency(), -1);
        x.stop();
        x.setParameter(Players.LIVE, 60000);
        x.start();
        Check.due("live at once", x.latency(), 60000);
        x.run(185);
        Check.due("live", x.latency(), 60000 + 185 - 101);
        x.run(1000);
        Check.due("live and ended", x.latency(), 60000 + 1185 - 300);
        x.stop();
        x.setParameter(Players.LIVE, 1);
        x.start();
        x.run(7);
        Check.due("live, least delay", x.latency(), 8);
    }

    private static void availability() {
        StreamPlayer x = Players.swift(3, Players.LENGTH, 100, Players.LIVE, 1);
        Players.addVideo(x, 1);
        Players.addAudio(x, 1);
        x.start();
        x.run(99);
        Check.due("99: nothing is available", x.download(0), -1);
        Check.due("99: nothing is downloaded", x.downloaded(0), 0);
        x.run(1);
        Check.due("100: segment 0 of video", x.downloaded(0), 1);
        Check.due("100: audio is next", x.downloaded(1), 0);
        x.run(1);
        Check.due("101: segment 0 of audio", x.downloaded(1), 1);
        x.run(98);
        Check.due("199: no more", x.downloaded(0), 1);
        x.run(1);
        Check.due("200: segment 1", x.downloaded(0), 2);
        StreamPlayer y = Players.swift(9, Players.LENGTH, 100, Players.LIVE, 350);
        Players.addVideo(y, 1);
        y.start();
        y.run(49);
        Check.due("three are available before 0 and up to 49", y.downloaded(0), 3);
        y.run(1);
        Check.due("not at 49 either", y.downloaded(0), 3);
        y.run(1);
        Check.due("the fourth one at 50", y.downloaded(0), 4);
    }

    /** Ten segments are available at once; playing starts with the fifth, in millisecond 4. */
    private static StreamPlayer behind(int target, int low) {
        StreamPlayer x = Players.swift(50, Players.LENGTH, 100, Players.LIVE, 1000);
        Players.set(x, Players.START, 500, Players.TARGET, target, Players.LOW, low);
        Players.addVideo(x, 1);
        x.start();
        return x;
    }

    private static void catchingUp() {
        StreamPlayer x = behind(700, 100);
        Check.due("10", x.run(10), 6);
        Check.due("11: by 2", x.run(1), 8);
        Check.due("20: by 1", x.run(9), 17);
        Check.due("21: by 2", x.run(1), 19);
        Check.due("21: play time", x.spent(2), 17);
        Check.due("21: quality, once a millisecond", x.quality(), 17);
        x.run(3019);
        Check.due("3040: latency", x.latency(), 701);
        x.run(1);
        Check.due("3041: the last time", x.latency(), 700);
        x.run(200);
        Check.due("the target is reached", x.latency(), 700);
        StreamPlayer y = behind(1004, 100);
        y.run(500);
        Check.due("never above the target", y.latency(), 1004);
        StreamPlayer z = behind(1003, 100);
        z.run(500);
        Check.due("once above the target", z.latency(), 1003);
        StreamPlayer notLive = Players.swift(50, Players.LENGTH, 100, Players.TARGET, 0, Players.LOW, 0);
        Players.addVideo(notLive, 1);
        notLive.start();
        // It starts with 2000 ms, in millisecond 19.
        Check.due("not live: never by 2", notLive.run(500), 481);
    }

    /** The buffer is 994 at 10. */
    private static void lowBuffer() {
        Check.due("the low buffer is there", behind(700, 994).run(11), 8);
        Check.due("one is missing", behind(700, 995).run(11), 7);
    }

    /** Position 99 is reached at 190, when the buffer is 1 and the next segment comes at 199. */
    private static void smallBuffer() {
        StreamPlayer x = Players.swift(3, Players.LENGTH, 100, Players.LIVE, 1, Players.TARGET, 0);
        Players.set(x, Players.LATENCY, 1, Players.LOW, 0, Players.START, 100, Players.RESUME, 100);
        Players.addVideo(x, 1);
        x.start();
        Check.due("101: by 2 at once", x.run(101), 2);
        Check.due("190", x.run(89), 99);
        Check.due("190: buffer", x.buffer(0), 1);
        Check.due("191: by 1 only", x.run(1), 100);
        Check.due("191: state", x.state(), 2);
        x.run(1);
        Check.due("192: state", x.state(), 3);
        StreamPlayer y = Players.swift(3, Players.LENGTH, 101, Players.LIVE, 2, Players.TARGET, 0);
        Players.set(y, Players.LATENCY, 1, Players.LOW, 0, Players.START, 100, Players.RESUME, 100);
        Players.addVideo(y, 1);
        y.start();
        Check.due("190 with 101", y.run(190), 99);
        Check.due("190 with 101: buffer", y.buffer(0), 2);
        Check.due("191 with 101: by 2", y.run(1), 101);
    }
}
