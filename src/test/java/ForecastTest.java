/** Promises 28 to 32: forecasts, trials and the fingerprint. RefusalTest has their exceptions. */
public final class ForecastTest {
    private ForecastTest() {
    }

    public static void main(String[] args) {
        forecast();
        trialScore();
        bestMode();
        leastStart();
        nothingIsChanged();
        fingerprint();
        Check.end();
    }

    private static void forecast() {
        Check.sentence("Promise 28", "what: 0 the state, 1 the position, 2 the stall time, 3 the buffer of "
            + "video", () -> {
                // At 50 bits a millisecond the segments come with milliseconds 169, 353 and 551.
                int[] spans = {0, 84, 169, 170, 269, 270, 353, 354, 20000};
                int[][] due = {
                    {1, 1, 1, 2, 2, 3, 3, 2, 4}, {0, 0, 0, 1, 100, 100, 100, 101, 300},
                    {0, 0, 0, 0, 0, 1, 84, 84, 182}, {0, 0, 0, 99, 0, 0, 0, 99, 0}
                };
                StreamPlayer x = Players.simple(50);
                x.start();
                for (int i = 0; i < spans.length; i++) {
                    for (int what = 0; what < 4; what++) {
                        Check.due("forecast(" + spans[i] + ", " + what + ")",
                            x.forecast(spans[i], what), due[what][i]);
                    }
                }
            });
        Check.sentence("Promise 28", "milliseconds: 0 to 20000", () -> {
            for (Situation situation : Situation.WITH_SESSION) {
                StreamPlayer x = situation.make();
                int[] now = {x.state(), x.position(), x.spent(1), x.buffer(0)};
                for (int what = 0; what < 4; what++) {
                    Check.due(situation + ": 0 of " + what, x.forecast(0, what), now[what]);
                }
                Check.due(situation + ": 20000", x.forecast(20000, 1), 700);
            }
            StreamPlayer never = Players.simple(0);
            never.setParameter(Players.START, 0);
            never.start();
            Check.due("20000 of stall", never.forecast(20000, 2), 20000);
            Check.due("19999 of stall", never.forecast(19999, 2), 19999);
        });
        Check.sentence("Promise 28", "Returns that number after so many milliseconds.",
            ForecastTest::asItComes);
        Check.sentence("Promise 28", "Tells what the session would be like later.", () -> {
            ofADownloadThatIsGoingOn();
            // Rung 0 needs about 100 bits a millisecond; after the first second there are but 50.
            StreamPlayer x = Players.simple(400);
            x.setParameter(Players.SEGMENTS, 80);
            x.addPhase(100000, 50);
            x.start();
            x.run(100);
            int stalled = x.forecast(9000, 2);
            Check.holds("it will stall", stalled > 0);
            x.run(9000);
            Check.due("as long as that", x.spent(1), stalled);
        });
    }

    /**
     * Segment 0 has come with millisecond 84; rung 1 of segment 1 is abandoned with 104, after its
     * grace, and 9200 bits of rung 0 come by 10 a millisecond, from 105 to 1024. It plays up to 183.
     */
    private static void ofADownloadThatIsGoingOn() {
        int[] spans = {934, 935, 935, 935};
        int[] what = {0, 0, 1, 2};
        int[] due = {3, 2, 101, 840};
        for (int i = 0; i < spans.length; i++) {
            StreamPlayer x = Players.simple(100);
            x.clear();
            Players.set(x, Players.GRACE, 20, Players.MODE, 1, Players.LOW, 0, Players.HIGH, 0);
            Players.addVideo(x, 100, 1000);
            x.addPhase(85, 100);
            x.addPhase(100000, 10);
            x.start();
            x.run(90);
            Check.due("rung 1 is going on", x.download(2), 1);
            Check.due("forecast(" + spans[i] + ", " + what[i] + ")", x.forecast(spans[i], what[i]), due[i]);
        }
    }

    /** Two tracks, a network that fails now and then, changes that are held, abandoned downloads. */
    private static StreamPlayer busy(int mode) {
        StreamPlayer x = new StreamPlayer();
        Players.set(x, Players.LENGTH, 200, Players.SEGMENTS, 60, Players.START, 300);
        Players.set(x, Players.RESUME, 200, Players.LOW, 300, Players.HIGH, 900, Players.CAP, 1300);
        Players.set(x, Players.LATENCY, 5, Players.HOLD, 300, Players.GRACE, 60, Players.MODE, mode);
        Players.set(x, Players.WINDOW, 3);
        Players.addVideo(x, 100, 200, 300, 500);
        Players.addAudio(x, 10, 20, 60);
        x.addPhase(1148, 500);
        x.addPhase(1181, 50);
        return x;
    }

    /** What a forecast says of a time is what another player finds there. */
    private static void asItComes() {
        for (int mode = 0; mode <= 2; mode++) {
            StreamPlayer later = busy(mode);
            int[][] due = new int[90][];
            later.start();
            for (int i = 0; i < due.length; i++) {
                due[i] = new int[] {later.state(), later.position(), later.spent(1), later.buffer(0)};
                later.run(100);
            }
            Check.holds("something was abandoned in mode " + mode, later.count(1) > 0);
            Check.holds("something stalled in mode " + mode, later.count(0) > 0);
            StreamPlayer x = busy(mode);
            x.start();
            for (int i = 0; i < 50; i += 5) {
                // What a trial leaves behind must not come into a forecast.
                x.trialScore((mode + 1) % 3, 100 * i);
                compareForecasts(x, i, due, 7);
                compareForecasts(x, i, due, 39);
                x.run(500);
                // Nor must it be needed that something has been left.
                for (int what = 0; what <= 3; what++) {
                    StreamPlayer first = busy(mode);
                    first.start();
                    first.run(100 * i + 50);
                    Check.due("first forecast of " + what + " at " + (100 * i + 50),
                        first.forecast(3850, what), due[i + 39][what]);
                }
            }
            x.run(4000);
            Check.due("the same in the end in mode " + mode, x.fingerprint(), later.fingerprint());
        }
    }

    private static void compareForecasts(StreamPlayer x, int now, int[][] due, int steps) {
        for (int what = 0; what <= 3; what++) {
            Check.due("forecast of " + what + " for " + 100 * steps + " at " + 100 * now,
                x.forecast(100 * steps, what), due[now + steps][what]);
        }
    }

    /** Mode 0 stays at rung 0, mode 1 takes rung 1 and stalls. */
    private static StreamPlayer trying() {
        StreamPlayer x = Players.simple(100);
        x.clear();
        Players.set(x, Players.LOW, 0, Players.HIGH, 0, Players.GRACE, 5000);
        Players.addVideo(x, 70, 1000);
        x.addPhase(1000, 100);
        return x;
    }

    /** The score of a real session in a mode, after a time. */
    private static long scoreOf(StreamPlayer x, int mode, int milliseconds) {
        x.setParameter(Players.MODE, mode);
        x.start();
        x.run(milliseconds);
        long score = x.score();
        x.stop();
        return score;
    }

    private static void trialScore() {
        Check.sentence("Promise 29", "mode: 0 to 2", () -> {
            StreamPlayer x = trying();
            // 5950 bits in 60 ms, from then on each segment is there in time
            Check.due("mode 0", x.trialScore(0, 20000), 21000);
            // The buffer ends at 159; 105000 bits of segment 1 are there with millisecond 1109.
            Check.due("mode 1", x.trialScore(1, 1109), 7000 - 2 * 1000 * 950);
            Check.due("mode 2", x.trialScore(2, 20000), 21000);
        });
        Check.sentence("Promise 29", "but another mode", () -> {
            for (int own = 0; own <= 2; own++) {
                StreamPlayer x = trying();
                x.setParameter(Players.MODE, own);
                for (int mode = 0; mode <= 2; mode++) {
                    Check.due("mode " + mode + " where the own one is " + own,
                        x.trialScore(mode, 1109), scoreOf(trying(), mode, 1109));
                }
                Check.due("the own one stays", x.setParameter(Players.MODE, 0), own);
            }
        });
        Check.sentence("Promise 29", "its time, 0 to 20000", () -> {
            int[] spans = {0, 1, 59, 60, 161, 500, 19999, 20000};
            for (int span : spans) {
                for (int mode = 0; mode <= 2; mode++) {
                    Check.due("mode " + mode + " for " + span,
                        trying().trialScore(mode, span), scoreOf(trying(), mode, span));
                }
            }
            StreamPlayer stalling = Players.simple(0);
            stalling.setParameter(Players.START, 0);
            Check.due("0", stalling.trialScore(0, 0), 0);
            Check.due("1", stalling.trialScore(0, 1), -200);
            Check.due("20000", stalling.trialScore(0, 20000), -4000000);
        });
        Check.sentence("Promise 29", "a session has that is started with the present settings", () -> {
            StreamPlayer x = trying();
            x.start();
            x.run(140);
            Check.due("also in a session", x.trialScore(1, 1109), 7000 - 1900000);
            x.run(1000);
            Check.due("later in it as well", x.trialScore(1, 1109), 7000 - 1900000);
            x.stop();
            Check.due("behind it as well", x.trialScore(1, 1109), 7000 - 1900000);
            x.setParameter(Players.START, 60000);
            Check.due("by other settings", x.trialScore(1, 1109), 0);
        });
        Check.sentence("Promise 29", "Returns the score.", () -> {
            StreamPlayer x = Players.simple(0);
            x.clear();
            x.setParameter(Players.START, 0);
            Players.addVideo(x, 1, 50000);
            x.addPhase(1, 0);
            x.setParameter(Players.RESUME, 60000);
            Check.due("of the greatest rung", x.trialScore(2, 20000), -2000000000);
        });
    }

    private static void bestMode() {
        Check.sentence("Promise 30", "of several the smallest one", () -> {
            StreamPlayer x = trying();
            Check.due("0 and 2 are equal, 1 is less", x.bestMode(20000), 0);
            Check.due("all are equal", x.bestMode(0), 0);
            StreamPlayer y = Players.swift(9, Players.SAFETY, 10, Players.LOW, 60000);
            Players.addVideo(y, 1000, 2000);
            long[] scores = {y.trialScore(0, 9000), y.trialScore(1, 9000), y.trialScore(2, 9000)};
            Check.holds("0 is more than 1 and 2, which are equal",
                scores[0] > scores[1] && scores[1] == scores[2]);
            Check.due("0", y.bestMode(9000), 0);
        });
        Check.sentence("Promise 30", "the mode with the greatest score as of trialScore()", () -> {
            StreamPlayer y = Players.swift(9, Players.SAFETY, 10, Players.LOW, 0, Players.HIGH, 0);
            Players.addVideo(y, 1000, 40000);
            Check.due("by buffer, more than 0 and 2, which are equal", y.bestMode(20000), 1);
            modeTwoIsBest();
            modeOneIsBest();
        });
        Check.sentence("Promise 30", "milliseconds: 0 to 20000", () -> {
            // All play from 0 on; by buffer, segment 1 is of rung 1, and the position enters it at 1000.
            StreamPlayer x = Players.swift(9, Players.START, 1000, Players.SAFETY, 10);
            Players.set(x, Players.LOW, 0, Players.HIGH, 0);
            Players.addVideo(x, 1, 120);
            Check.due("0", x.bestMode(0), 0);
            Check.due("1000", x.bestMode(1000), 0);
            Check.due("1001", x.bestMode(1001), 1);
            Check.due("20000", x.bestMode(20000), 1);
        });
    }

    /** Mode 2 has more than mode 0, but mode 1 has more than both. */
    private static void modeOneIsBest() {
        StreamPlayer x = Players.simple(100);
        x.clear();
        Players.set(x, Players.SEGMENTS, 40, Players.GRACE, 5000, Players.CAP, 1000);
        Players.set(x, Players.LOW, 200, Players.HIGH, 0, Players.WINDOW, 1, Players.START, 200);
        Players.addVideo(x, 100, 400);
        x.addPhase(500, 800);
        x.addPhase(1900, 150);
        long two = x.trialScore(2, 9000);
        Check.holds("mode 2 has more than mode 0", two > x.trialScore(0, 9000));
        Check.holds("mode 1 has more than mode 2", x.trialScore(1, 9000) > two);
        Check.due("so mode 1 is best", x.bestMode(9000), 1);
    }

    /** The small buffer warns when the network fails, and the throughput when it is back. */
    private static void modeTwoIsBest() {
        StreamPlayer x = Players.simple(100);
        x.clear();
        Players.set(x, Players.SEGMENTS, 40, Players.GRACE, 5000, Players.CAP, 1000);
        Players.set(x, Players.LOW, 400, Players.HIGH, 200, Players.WINDOW, 1, Players.START, 300);
        Players.addVideo(x, 100, 500);
        x.addPhase(1000, 700);
        x.addPhase(1600, 40);
        long two = x.trialScore(2, 9000);
        Check.holds("mode 2 has more than mode 0", two > x.trialScore(0, 9000));
        Check.holds("mode 2 has more than mode 1", two > x.trialScore(1, 9000));
        Check.due("so it is best", x.bestMode(9000), 2);
    }

    private static void leastStart() {
        Check.sentence("Promise 31", "Returns the least k from 0 to 10", () -> {
            StreamPlayer there = Players.swift(3);
            Players.addVideo(there, 1);
            Check.due("0: the first segment is there in time", there.leastStart(20000), 0);
            Check.due("1: with 0 it stalls at once", Players.simple(100).leastStart(20000), 1);
            // With two, 200 ms are over at 553; the third one is there with millisecond 551.
            Check.due("2: one is too few", Players.simple(50).leastStart(20000), 2);
            // Segment i is there in time if twice the percents of k to i are at most 100 * i.
            StreamPlayer x = Players.simple(50);
            x.setParameter(Players.SEGMENTS, 18);
            Check.due("10: just enough", x.leastStart(20000), 10);
        });
        Check.sentence("Promise 31", "-1 if there is none", () -> {
            StreamPlayer x = Players.simple(50);
            x.setParameter(Players.SEGMENTS, 19);
            Check.due("11 would be needed", x.leastStart(20000), -1);
            x.setParameter(Players.SEGMENTS, 200);
            Check.due("even more", x.leastStart(20000), -1);
        });
        Check.sentence("Promise 31", "a session that is started with the present settings", () -> {
            // Mode 1 takes rung 1, which is too slow for any threshold; the others stay at rung 0.
            int[] due = {1, -1, 1};
            for (int mode = 0; mode <= 2; mode++) {
                StreamPlayer x = trying();
                x.setParameter(Players.SEGMENTS, 20);
                x.setParameter(Players.MODE, mode);
                Check.due("mode " + mode, x.leastStart(20000), due[mode]);
            }
        });
        Check.sentence("Promise 31", "has no stall in so many milliseconds", () -> {
            // With a threshold of 100, the second segment is there with 353, and 100 ms end at 269.
            StreamPlayer x = Players.simple(50);
            Check.due("269", x.leastStart(269), 1);
            Check.due("270", x.leastStart(270), 2);
        });
        Check.sentence("Promise 31", "milliseconds: 0 to 20000", () -> {
            Check.due("0: no time to stall", Players.simple(0).leastStart(0), 0);
            Check.due("1: k = 0 stalls at once", Players.simple(0).leastStart(1), 1);
            Check.due("20000: it never starts", Players.simple(0).leastStart(20000), 1);
        });
        Check.sentence("Promise 31", "but the start threshold k * D (60000, if that is greater)", () -> {
            // By one bit a millisecond, the first two segments are there with 8499 and 17699.
            StreamPlayer x = Players.swift(30, Players.LENGTH, 10000);
            x.clear();
            Players.addVideo(x, 1);
            x.addPhase(100000, 1);
            Check.due("the second one is in time for 18499", x.leastStart(20000), 1);
            x.clear();
            Players.addVideo(x, 1);
            x.addPhase(4250, 2);
            x.addPhase(100000, 0);
            // The first one is there with 4249, and no other comes.
            Check.due("it lasts up to 14248", x.leastStart(14249), 1);
            Check.due("then it stalls, but a threshold of 20000 does not let it start",
                x.leastStart(14250), 2);
            x.setParameter(Players.START, 0);
            Check.due("whatever threshold is set", x.leastStart(14250), 2);
            x.setParameter(Players.START, 60000);
            Check.due("also the greatest one", x.leastStart(14249), 1);
        });
    }

    private static void nothingIsChanged() {
        Situation[] playable = {
            Situation.READY, Situation.JUST_STARTED, Situation.STARTING, Situation.PLAYING,
            Situation.STALLED, Situation.ENDED, Situation.STOPPED
        };
        Check.sentence("Promise 28", "Nothing is changed.", () -> {
            for (Situation situation : Situation.WITH_SESSION) {
                unchanged(situation + ", short", situation, x -> x.forecast(77, 0));
                unchanged(situation + ", long", situation, x -> x.forecast(20000, 3));
            }
        });
        Check.sentence("Promise 29", "Nothing is changed.", () -> {
            for (Situation situation : playable) {
                unchanged(situation + ", mode 0", situation, x -> x.trialScore(0, 20000));
                unchanged(situation + ", mode 2", situation, x -> x.trialScore(2, 333));
            }
        });
        Check.sentence("Promise 30", "Nothing is changed.", () -> {
            for (Situation situation : playable) {
                unchanged(situation.toString(), situation, x -> x.bestMode(3000));
            }
        });
        Check.sentence("Promise 31", "Nothing is changed.", () -> {
            for (Situation situation : playable) {
                unchanged(situation.toString(), situation, x -> x.leastStart(3000));
            }
        });
    }

    private static void unchanged(String what, Situation situation, Snapshot.Ask call) {
        StreamPlayer x = situation.make();
        StreamPlayer twin = situation.make();
        call.of(x);
        Snapshot.compare(what, x, twin);
    }

    private static long print(long... numbers) {
        long print = 59;
        for (long number : numbers) {
            print = 31 * print + number;
        }
        return print;
    }

    private static long printOf(StreamPlayer y) {
        return print(y.state(), y.time(), y.position(), y.buffer(0), y.buffer(1), y.download(0),
            y.download(1), y.download(2), y.download(3), y.download(4), y.received(), y.estimate(),
            y.spent(0), y.spent(1), y.spent(2), y.count(0), y.count(1), y.count(2), y.count(3),
            y.wasted(), y.quality());
    }

    private static void fingerprint() {
        Check.sentence("Promise 32", "It starts as 59", () -> {
            Check.due("no session", new StreamPlayer().fingerprint(), 31 * 59);
            Check.due("no session any more", Situation.STOPPED.make().fingerprint(), 31 * 59);
        });
        Check.sentence("Promise 32", "if there is a session: time(), position(), buffer(0), buffer(1)", () -> {
            StreamPlayer x = Players.simple(50);
            x.start();
            x.run(300);
            Check.due("stalled", x.fingerprint(), print(3, 300, 100, 0, 0,
                0, 1, 0, 0, 130, 6500, 50, 169, 31, 100, 1, 0, 1, 0, 0, 10000));
            x.run(700);
            Check.due("ended", x.fingerprint(), print(4, 1000, 300, 0, 0,
                -1, -1, -1, -1, -1, -1, 50, 169, 182, 300, 2, 0, 3, 0, 0, 30000));
        });
        Check.sentence("Promise 32", "in this order", () -> {
            StreamPlayer x = Situation.PLAYING.make();
            x.run(60);
            x.forecast(77, 0);
            Check.due("while playing", x.fingerprint(), printOf(x));
            StreamPlayer y = Players.swift(9, Players.START, 1000, Players.LATENCY, 40);
            Players.set(y, Players.MODE, 1, Players.LOW, 0, Players.HIGH, 0);
            Players.addVideo(y, 100, 200);
            Players.addAudio(y, 10, 20);
            y.start();
            y.run(140);
            Check.holds("all that is asked for differs",
                y.buffer(0) != y.buffer(1) && y.position() != y.spent(2) + y.spent(0));
            Check.due("while waiting", y.fingerprint(), printOf(y));
        });
        Check.sentence("Promise 32", "in long arithmetic with overflow", () -> {
            StreamPlayer x = Players.simple(0);
            x.start();
            x.run(20000);
            java.math.BigInteger exact = java.math.BigInteger.valueOf(59);
            int[] numbers = {
                1, 20000, 0, 0, 0, 0, 0, 0, 0, 20000, 0, 0, 20000, 0, 0, 0, 0, 0, 0, 0, 0
            };
            for (int number : numbers) {
                exact = exact.multiply(java.math.BigInteger.valueOf(31))
                    .add(java.math.BigInteger.valueOf(number));
            }
            Check.holds("the exact one is above all longs", exact.bitLength() > 64);
            Check.due("its last 64 bits", x.fingerprint(), exact.longValue());
        });
    }
}
