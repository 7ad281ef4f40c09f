/** Promises 22 to 27: the accounts of a session. */
public final class AccountsTest {
    private static final Class<IndexOutOfBoundsException> INDEX = IndexOutOfBoundsException.class;
    private static final Class<IllegalStateException> STATE = IllegalStateException.class;

    private AccountsTest() {
    }

    public static void main(String[] args) {
        smoothSession();
        stallingSession();
        manyStalls();
        switches();
        qualityAndScore();
        timeLine();
        longTimeLine();
        wrongArguments();
        Check.end();
    }

    private static void times(String what, StreamPlayer x, int startUp, int stall, int play) {
        Check.due(what + ": start-up time", x.spent(0), startUp);
        Check.due(what + ": stall time", x.spent(1), stall);
        Check.due(what + ": play time", x.spent(2), play);
    }

    private static void counts(String what, StreamPlayer x, int... due) {
        for (int i = 0; i < due.length; i++) {
            Check.due(what + ": count " + i, x.count(i), due[i]);
        }
    }

    private static void smoothSession() {
        StreamPlayer x = Players.simple(100);
        x.start();
        times("at once", x, 0, 0, 0);
        counts("at once", x, 0, 0, 0, 0);
        x.run(84);
        times("84", x, 84, 0, 0);
        x.run(1);
        times("85", x, 84, 0, 1);
        counts("85", x, 0, 0, 1, 0);
        x.run(299);
        times("384", x, 84, 0, 300);
        x.run(500);
        times("ended", x, 84, 0, 300);
        counts("ended", x, 0, 0, 3, 0);
        Check.due("quality", x.quality(), 30000);
        Check.due("score", x.score(), 30000);
        Check.due("wasted", x.wasted(), 0);
    }

    /** The segments come with milliseconds 169, 353 and 551. */
    private static void stallingSession() {
        StreamPlayer x = Players.simple(50);
        x.start();
        x.run(269);
        counts("269", x, 0, 0, 1, 0);
        x.run(1);
        counts("270", x, 1, 0, 1, 0);
        times("270", x, 169, 1, 100);
        x.run(730);
        times("ended", x, 169, 84 + 98, 300);
        counts("ended", x, 2, 0, 3, 0);
        Check.due("quality", x.quality(), 30000);
        Check.due("score", x.score(), 30000 - 2 * 100 * 182);
    }

    /** With a resume threshold of 0, playing is taken up and left again in each millisecond. */
    private static void manyStalls() {
        StreamPlayer x = Players.simple(50);
        x.setParameter(Players.RESUME, 0);
        x.start();
        x.run(1000);
        counts("resume threshold 0", x, 182, 0, 3, 0);
        times("resume threshold 0", x, 169, 182, 300);
    }

    private static void switches() {
        StreamPlayer x = Players.swift(6, Players.START, 60000, Players.MODE, 1, Players.HOLD, 3);
        Players.set(x, Players.LOW, 0, Players.HIGH, 0);
        Players.addVideo(x, 1, 2, 3);
        Players.addAudio(x, 1, 2);
        x.start();
        // Video at 0, 2, 4, 6, 8 and 10; rungs 0, 0, 1, 1, 2 and 2. Audio is of rung 0, then 1.
        x.run(1);
        Check.due("one segment", x.count(3), 0);
        x.run(4);
        Check.due("a switch up", x.count(3), 1);
        x.run(7);
        counts("all", x, 0, 0, 12, 2);
        Check.due("the last rung", x.rungOf(0, 5), 2);
        StreamPlayer y = Players.swift(6, Players.START, 60000, Players.MODE, 0, Players.WINDOW, 1);
        y.setParameter(Players.GRACE, 5000);
        y.clear();
        Players.addVideo(y, 1, 2);
        y.addPhase(1, 100000);
        // Rung 1 has 2100 bits, then rung 0 has 990, 1060, 1130 and 890, one a millisecond.
        y.addPhase(100000, 1);
        y.start();
        y.run(6171);
        Check.due("a switch down", y.rungOf(0, 2), 0);
        Check.due("both switches", y.count(3), 2);
        Check.due("finished", y.count(2), 6);
    }

    private static void qualityAndScore() {
        StreamPlayer x = Players.swift(3, Players.START, 1000, Players.MODE, 1);
        Players.set(x, Players.LOW, 0, Players.HIGH, 0);
        Players.addVideo(x, 10, 20, 40);
        x.start();
        x.run(1000);
        Check.due("1000: quality", x.quality(), 10000);
        x.run(1);
        Check.due("1001: the next segment counts", x.quality(), 10020);
        x.run(999);
        Check.due("2000: quality", x.quality(), 30000);
        x.run(5000);
        Check.due("all: quality", x.quality(), 70000);
        Check.due("all: score", x.score(), 70000);
        x.stop();
        Players.set(x, Players.START, 0, Players.RESUME, 1000, Players.LATENCY, 10);
        x.start();
        // It stalls at once, and resumes with millisecond 10.
        x.run(20);
        times("stalled first", x, 0, 10, 10);
        Check.due("by the rate of the greatest rung", x.score(), 10 * 10 - 2 * 40 * 10);
        StreamPlayer y = Players.simple(0);
        y.clear();
        y.setParameter(Players.START, 0);
        Players.addVideo(y, 1, 50000);
        y.addPhase(1, 0);
        y.start();
        for (int i = 0; i < 3; i++) {
            y.run(20000);
        }
        Check.due("a score below all ints", y.score(), -6000000000L);
    }

    /** Playing starts at 0, so that the position is the time. */
    private static void timeLine() {
        StreamPlayer x = Players.swift(3, Players.START, 1000, Players.MODE, 1);
        Players.set(x, Players.LOW, 0, Players.HIGH, 0);
        Players.addVideo(x, 1, 2, 3);
        x.start();
        Check.due("before the first millisecond", x.timeLine(0), -1);
        x.run(1000);
        Check.due("the first one", x.timeLine(0), 's');
        Check.due("none at 1000 yet", x.timeLine(1), -1);
        x.run(1);
        Check.due("the segment that has just ended", x.timeLine(1), '0');
        x.run(4000);
        int[] due = {'s', '0', '1', '2', 'e', 'e', -1};
        for (int k = 0; k < due.length; k++) {
            Check.due("time line " + k, x.timeLine(k), due[k]);
        }
        Check.due("far behind", x.timeLine(Integer.MAX_VALUE), -1);
        x.stop();
        x.setParameter(Players.LATENCY, 999);
        x.start();
        // Segment n comes with millisecond 1000 * n + 999, so that position 1001 is reached at 2000.
        x.run(3001);
        Check.due("position", x.position(), 2002);
        int[] later = {'s', '0', '1', '2', -1};
        for (int k = 0; k < later.length; k++) {
            Check.due("a segment has just begun " + k, x.timeLine(k), later[k]);
        }
        StreamPlayer y = Players.simple(1);
        y.setParameter(Players.START, 0);
        y.start();
        y.run(2001);
        int[] stalled = {'s', '-', '-', -1};
        for (int k = 0; k < stalled.length; k++) {
            Check.due("stalled " + k, y.timeLine(k), stalled[k]);
        }
    }

    private static void longTimeLine() {
        StreamPlayer x = Players.simple(0);
        x.start();
        for (int i = 0; i < 14; i++) {
            x.run(20000);
        }
        x.run(19001);
        Check.due("the 300th", x.timeLine(299), 's');
        Check.due("no 301st", x.timeLine(300), -1);
        x.run(20000);
        Check.due("the 300th stays", x.timeLine(299), 's');
        Check.due("still no 301st", x.timeLine(300), -1);
    }

    private static void wrongArguments() {
        StreamPlayer x = Players.simple(100);
        for (int round = 0; round < 2; round++) {
            int[] wrong = {-1, Integer.MIN_VALUE, Integer.MAX_VALUE};
            for (int what : wrong) {
                Check.fails("spent " + what, INDEX, () -> x.spent(what));
                Check.fails("count " + what, INDEX, () -> x.count(what));
            }
            Check.fails("spent 3", INDEX, () -> x.spent(3));
            Check.fails("count 4", INDEX, () -> x.count(4));
            Check.fails("timeLine -1", INDEX, () -> x.timeLine(-1));
            Check.fails("timeLine, least int", INDEX, () -> x.timeLine(Integer.MIN_VALUE));
            if (round == 0) {
                Check.fails("spent 2", STATE, () -> x.spent(2));
                Check.fails("count 3", STATE, () -> x.count(3));
                Check.fails("timeLine 0", STATE, () -> x.timeLine(0));
                Check.fails("wasted", STATE, x::wasted);
                Check.fails("quality", STATE, x::quality);
                Check.fails("score", STATE, x::score);
                x.start();
            }
        }
    }
}
