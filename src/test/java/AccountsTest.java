/** Quality, the time line, and promises 22 to 27. RefusalTest has their exceptions. */
public final class AccountsTest {
    private AccountsTest() {
    }

    public static void main(String[] args) {
        spent();
        count();
        wasted();
        quality();
        score();
        signs();
        timeLine();
        Check.end();
    }

    private static void spent() {
        Check.sentence("Promise 22", "what: 0 the start-up time, 1 the stall time, 2 the play time", () -> {
            // At 50 bits a millisecond the segments come with milliseconds 169, 353 and 551.
            int[] times = {0, 169, 269, 353, 1000};
            int[][] due = {{0, 0, 0}, {169, 0, 0}, {169, 0, 100}, {169, 84, 100}, {169, 182, 300}};
            StreamPlayer x = Players.simple(50);
            x.start();
            for (int i = 0; i < times.length; i++) {
                x.run(times[i] - x.time());
                for (int what = 0; what < 3; what++) {
                    Check.due("spent " + what + " at " + times[i], x.spent(what), due[i][what]);
                }
            }
            x.stop();
            x.start();
            for (int what = 0; what < 3; what++) {
                Check.due("spent " + what + " in a second session", x.spent(what), 0);
            }
        });
        Check.sentence("Promise 22", "Returns that time.", () -> {
            StreamPlayer x = Players.simple(0);
            x.start();
            x.run(20000);
            Check.due("all of it is start-up time", x.spent(0), 20000);
            x.stop();
            x.setParameter(Players.START, 0);
            x.start();
            x.run(20000);
            Check.due("all of it is stall time", x.spent(1), 20000);
            Check.due("and none start-up time", x.spent(0), 0);
        });
    }

    private static void counts(String what, StreamPlayer x, int... due) {
        for (int i = 0; i < due.length; i++) {
            Check.due(what + ": count " + i, x.count(i), due[i]);
        }
    }

    private static void count() {
        Check.sentence("Promise 23", "what: 0 stalls", () -> {
            StreamPlayer x = Players.simple(50);
            x.start();
            x.run(269);
            counts("269", x, 0, 0, 1, 0);
            x.run(1);
            counts("270", x, 1, 0, 1, 0);
            x.run(1000);
            counts("ended", x, 2, 0, 3, 0);
        });
        Check.sentence("Promise 23", "1 abandoned downloads, 2 finished downloads", () -> {
            StreamPlayer x = Players.threeRungs();
            x.run(2);
            counts("two have come", x, 0, 0, 2, 1);
            x.run(1);
            counts("one is abandoned", x, 0, 1, 2, 1);
            x.run(1);
            counts("another one", x, 0, 2, 2, 1);
            x.run(990);
            counts("the third one has come, by rung 0", x, 0, 2, 3, 2);
        });
        Check.sentence("Promise 23", "pairs of successive downloaded segments of video of different rungs",
            AccountsTest::switches);
    }

    private static void switches() {
        StreamPlayer x = Players.swift(6, Players.START, 60000, Players.MODE, 1, Players.HOLD, 3);
        Players.set(x, Players.LOW, 0, Players.HIGH, 0);
        Players.addVideo(x, 1, 2, 3);
        Players.addAudio(x, 1, 2);
        x.start();
        // Video at 0, 2, 4, 6, 8 and 10; rungs 0, 0, 1, 1, 2 and 2. Audio is of rung 0, then 1.
        int[] due = {0, 0, 0, 0, 1, 1, 1, 1, 2, 2, 2, 2};
        for (int i = 0; i < due.length; i++) {
            x.run(1);
            Check.due("switches after " + (i + 1), x.count(3), due[i]);
        }
        Check.due("finished", x.count(2), 12);
        Check.due("the last rung", x.rungOf(0, 5), 2);
        // Rung 1 has 2100 bits, then rung 0 has 990, 1060, 1130 and 890, one a millisecond.
        StreamPlayer y = Players.swift(6, Players.START, 60000, Players.MODE, 0, Players.WINDOW, 1);
        y.clear();
        y.setParameter(Players.GRACE, 5000);
        Players.addVideo(y, 1, 2);
        y.addPhase(1, 100000);
        y.addPhase(100000, 1);
        y.start();
        y.run(2101);
        Check.due("a switch up", y.count(3), 1);
        y.run(990);
        Check.due("and one down", y.count(3), 2);
        y.run(3080);
        Check.due("then no more", y.count(3), 2);
    }

    private static void wasted() {
        Check.sentence("Promise 24", "Returns the number of bits.", () -> {
            StreamPlayer x = Players.threeRungs();
            Check.due("at first", x.wasted(), 0);
            x.run(2);
            Check.due("what comes is not wasted", x.wasted(), 0);
            x.run(1);
            Check.due("what is abandoned is", x.wasted(), 10);
            x.run(1);
            Check.due("each time", x.wasted(), 20);
            x.stop();
            x.start();
            Check.due("in a second session", x.wasted(), 0);
        });
    }

    /** A segment of 1000 ms comes with each millisecond, each of a higher rung; it plays from 0 on. */
    private static StreamPlayer rising() {
        StreamPlayer x = Players.swift(3, Players.START, 1000, Players.MODE, 1);
        Players.set(x, Players.LOW, 0, Players.HIGH, 0);
        Players.addVideo(x, 10, 20, 40);
        return x;
    }

    private static void quality() {
        Check.sentence("Quality", "the rate of the video rung of the segment in which the position was before",
            () -> {
                int[] times = {0, 1, 1000, 1001, 2000, 2001, 3000, 3001, 9000};
                int[] due = {0, 10, 10000, 10020, 30000, 30040, 70000, 70000, 70000};
                StreamPlayer x = rising();
                x.start();
                for (int i = 0; i < times.length; i++) {
                    x.run(times[i] - x.time());
                    Check.due("quality at " + times[i], x.quality(), due[i]);
                }
            });
        Check.sentence("Quality", "over all milliseconds in which the position increased", () -> {
            StreamPlayer x = Players.simple(50);
            x.start();
            x.run(170);
            Check.due("not while starting", x.quality(), 100);
            x.run(99);
            Check.due("269", x.quality(), 10000);
            x.run(84);
            Check.due("not while stalled", x.quality(), 10000);
            x.run(1);
            Check.due("then again", x.quality(), 10100);
            x.run(1000);
            Check.due("not when ended", x.quality(), 30000);
            StreamPlayer live = Players.swift(50, Players.LENGTH, 100, Players.LIVE, 1000);
            Players.set(live, Players.START, 100, Players.TARGET, 0, Players.LOW, 0);
            Players.addVideo(live, 7);
            live.start();
            Check.due("by 2", live.run(1), 2);
            Check.due("but once", live.quality(), 7);
        });
        Check.sentence("Promise 25", "Returns the quality.", () -> {
            StreamPlayer x = Players.swift(6, Players.LENGTH, 10000);
            Players.addVideo(x, 50000);
            x.start();
            Players.run(x, 70000);
            Check.due("ended without a stall", x.state() + x.count(0), 4);
            Check.due("above all ints", x.quality(), 3000000000L);
            Check.due("the score as well", x.score(), 3000000000L);
        });
    }

    private static void score() {
        Check.sentence("Quality", "minus 2 * (rate of the greatest rung of video) * (stall time)", () -> {
            StreamPlayer x = Players.simple(50);
            x.start();
            x.run(270);
            Check.due("one millisecond of stall", x.score(), 10000 - 2 * 100);
            x.run(1000);
            Check.due("182 in all", x.score(), 30000 - 2 * 100 * 182);
            StreamPlayer y = rising();
            Players.set(y, Players.START, 0, Players.LATENCY, 10);
            y.start();
            // It stalls at once, and resumes with millisecond 10.
            y.run(20);
            Check.due("stall time", y.spent(1), 10);
            Check.due("by the greatest rung, not by that which plays", y.score(), 10 * 10 - 2 * 40 * 10);
        });
        Check.sentence("Promise 26", "Returns the score.", () -> {
            StreamPlayer x = Players.simple(0);
            x.clear();
            x.setParameter(Players.START, 0);
            Players.addVideo(x, 1, 50000);
            x.addPhase(1, 0);
            x.start();
            Check.due("at first", x.score(), 0);
            x.run(1);
            Check.due("after a millisecond", x.score(), -100000);
            Players.run(x, 59999);
            Check.due("below all ints", x.score(), -6000000000L);
        });
    }

    private static void signs() {
        Check.sentence("Time line", "At each time that is divisible by 1000 (also 0), before step 1", () -> {
            StreamPlayer x = rising();
            x.start();
            Check.due("none before the first millisecond", x.timeLine(0), -1);
            x.run(1);
            Check.due("one with it, which is of before step 1", x.timeLine(0), 's');
            x.run(999);
            Check.due("none at 1000, before that millisecond", x.timeLine(1), -1);
            x.run(1);
            Check.due("one with it", x.timeLine(1), '0');
            Check.due("no more", x.timeLine(2), -1);
        });
        Check.sentence("Time line", "\"s\" in the state 1", () -> {
            StreamPlayer x = Players.simple(0);
            x.start();
            x.run(2001);
            line(x, "sss");
        });
        Check.sentence("Time line", "\"-\" in the state 3", () -> {
            StreamPlayer x = Players.simple(1);
            x.setParameter(Players.START, 0);
            x.start();
            x.run(2001);
            line(x, "s--");
        });
        Check.sentence("Time line", "\"e\" in the state 4", () -> {
            StreamPlayer x = Players.simple(100);
            x.start();
            x.run(3001);
            line(x, "seee");
        });
        Check.sentence("Time line", "the digit of the video rung of the segment in which the position minus "
            + "1 is", AccountsTest::digits);
    }

    private static void line(StreamPlayer x, String due) {
        for (int k = 0; k < due.length(); k++) {
            Check.due("character " + k, x.timeLine(k), due.charAt(k));
        }
        Check.due("behind the last one", x.timeLine(due.length()), -1);
    }

    private static void digits() {
        StreamPlayer x = rising();
        x.start();
        x.run(4001);
        // The positions are 1000, 2000 and 3000, each just at the end of a segment.
        line(x, "s012e");
        x.stop();
        x.setParameter(Players.LATENCY, 999);
        x.start();
        // It plays from 999 on; at 2000 the position is 1001, at 3000 it is 2001.
        x.run(3001);
        Check.due("position", x.position(), 2002);
        line(x, "s012");
        StreamPlayer six = Players.swift(9, Players.START, 1000, Players.MODE, 1);
        Players.set(six, Players.LOW, 0, Players.HIGH, 0);
        Players.addVideo(six, 1, 2, 3, 4, 5, 6);
        six.start();
        six.run(7001);
        line(six, "s0123455");
    }

    private static void timeLine() {
        Check.sentence("Time line", "The first 300 are kept.", () -> {
            StreamPlayer x = Players.simple(0);
            x.start();
            Players.run(x, 299000);
            Check.due("299 at first", x.timeLine(298), 's');
            Check.due("and no more", x.timeLine(299), -1);
            x.run(1);
            Check.due("the 300th", x.timeLine(299), 's');
            x.run(20000);
            Check.due("the 300th stays", x.timeLine(299), 's');
            Check.due("there is no 301st", x.timeLine(300), -1);
            Check.due("the first one stays", x.timeLine(0), 's');
        });
        Check.sentence("Time line, not the last ones", "The first 300 are kept.", () -> {
            // One segment comes with millisecond 84999, and starts; it ends at 85099.
            StreamPlayer x = Players.simple(0);
            x.clear();
            Players.set(x, Players.SEGMENTS, 1);
            Players.addVideo(x, 1000);
            x.addPhase(100000, 1);
            x.start();
            Players.run(x, 320000);
            Check.due("the 85th", x.timeLine(84), 's');
            Check.due("the 86th", x.timeLine(85), '0');
            Check.due("the 87th", x.timeLine(86), 'e');
            Check.due("the 300th", x.timeLine(299), 'e');
            Check.due("the 301st", x.timeLine(300), -1);
        });
        Check.sentence("Promise 27", "Returns its code; -1 if there are not so many characters.", () -> {
            StreamPlayer x = Players.simple(100);
            x.start();
            Check.due("none yet", x.timeLine(0), -1);
            x.run(1);
            Check.due("the code of s", x.timeLine(0), 115);
            Check.due("the next one", x.timeLine(1), -1);
            Check.due("the 301st", x.timeLine(300), -1);
            Check.due("the greatest index", x.timeLine(Integer.MAX_VALUE), -1);
            x.run(2000);
            Check.due("the code of e", x.timeLine(1), 101);
            x.stop();
            x.start();
            Check.due("in a second session", x.timeLine(0), -1);
            StreamPlayer stalled = Players.simple(0);
            stalled.setParameter(Players.START, 0);
            stalled.start();
            stalled.run(1001);
            Check.due("the code of -", stalled.timeLine(1), 45);
        });
    }
}
