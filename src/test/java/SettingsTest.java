/** Tracks, parameters, segments and the network: promises 1 to 7. RefusalTest has their exceptions. */
public final class SettingsTest {
    private static final Class<IndexOutOfBoundsException> INDEX = IndexOutOfBoundsException.class;
    private static final Class<IllegalArgumentException> ARGUMENT = IllegalArgumentException.class;
    private static final Class<IllegalStateException> STATE = IllegalStateException.class;
    private static final String[] PARAMETERS = {
        "0 segment length D in milliseconds, 100 to 10000 (2000)",
        "1 number of segments, 1 to 200 (30)",
        "2 latency, 0 to 2000 (50)",
        "3 start threshold, 0 to 60000 (2000)",
        "4 resume threshold, 0 to 60000 (2000)",
        "5 low buffer, 0 to 60000 (4000)",
        "6 high buffer, 0 to 60000 (10000)",
        "7 cap, 1000 to 60000 (20000)",
        "8 window, 1 to 10 (3)",
        "9 safety, 10 to 100 (80)",
        "10 hold, 0 to 20000 (0)",
        "11 grace, 0 to 5000 (500)",
        "12 mode, 0 to 2 (2)",
        "13 live delay, 0 to 60000 (0)",
        "14 target latency, 0 to 60000 (60000)"
    };
    private static final int[] LEAST = {100, 1, 0, 0, 0, 0, 0, 1000, 1, 10, 0, 0, 0, 0, 0};
    private static final int[] GREATEST = {
        10000, 200, 2000, 60000, 60000, 60000, 60000, 60000, 10, 100, 20000, 5000, 2, 60000, 60000
    };
    private static final int[] INITIAL = {
        2000, 30, 50, 2000, 2000, 4000, 10000, 20000, 3, 80, 0, 500, 2, 0, 60000
    };

    private SettingsTest() {
    }

    public static void main(String[] args) {
        newObject();
        tracks();
        parameters();
        phases();
        clear();
        bandwidth();
        sizes();
        Check.end();
    }

    private static void newObject() {
        Check.sentence("Promise 1", "empty ladders", () -> {
            StreamPlayer x = new StreamPlayer();
            Check.fails("video has no rung 0", INDEX, () -> x.size(0, 0, 0));
            Check.fails("audio has no rung 0", INDEX, () -> x.size(1, 0, 0));
            Check.due("the first rung of video", x.addRung(0, 1), 0);
            Check.due("the first rung of audio", x.addRung(1, 1), 0);
        });
        Check.sentence("Promise 1", "an empty plan", () -> {
            StreamPlayer x = new StreamPlayer();
            Check.due("bandwidth", x.bandwidth(0), 0);
            Check.due("phases", x.clear(), 0);
            Check.due("the first phase", x.addPhase(1, 1), 1);
        });
        Check.sentence("Promise 1", "without a session", () -> {
            StreamPlayer x = new StreamPlayer();
            Check.due("state", x.state(), 0);
            Check.due("fingerprint", x.fingerprint(), 31 * 59);
            Check.fails("stop", STATE, x::stop);
        });
        Check.sentence("What it is", "An object is used for at most 512 calls after it has been made",
            SettingsTest::theLastCall);
    }

    /** The 512th call is promised like the first one. */
    private static void theLastCall() {
        StreamPlayer x = Players.simple(100);
        x.start();
        for (int i = 9; i <= 510; i++) {
            x.leastStart(1);
        }
        Check.due("call 511", x.run(85), 1);
        Check.due("call 512", x.leastStart(20000), 1);
    }

    private static void tracks() {
        Check.sentence("Tracks", "a ladder of rungs, numbered from 0", () -> {
            StreamPlayer x = new StreamPlayer();
            for (int track = 0; track < 2; track++) {
                Check.due("first of track " + track, x.addRung(track, 10), 0);
                Check.due("second of track " + track, x.addRung(track, 20), 1);
            }
            x.setParameter(0, 100);
            Check.due("rung 0 is the lowest of video", x.size(0, 0, 0), 850);
            Check.due("rung 0 is the lowest of audio", x.size(1, 0, 0), 880);
        });
        Check.sentence("Tracks", "increasing rates", SettingsTest::increasingRates);
        Check.sentence("Tracks", "at most 6 for video", () -> fillLadder(0, 6));
        Check.sentence("Tracks", "at most 3 for audio", () -> fillLadder(1, 3));
        Check.sentence("Promise 3", "rate: 1 to 50000", () -> {
            for (int track = 0; track < 2; track++) {
                StreamPlayer x = new StreamPlayer();
                int t = track;
                Check.fails("0", ARGUMENT, () -> x.addRung(t, 0));
                Check.fails("50001", ARGUMENT, () -> x.addRung(t, 50001));
                Check.due("1", x.addRung(t, 1), 0);
                Check.due("50000", x.addRung(t, 50000), 1);
                Check.fails("50001 above it", ARGUMENT, () -> x.addRung(t, 50001));
            }
        });
    }

    private static void increasingRates() {
        for (int track = 0; track < 2; track++) {
            StreamPlayer x = new StreamPlayer();
            int t = track;
            x.addRung(t, 40);
            Check.fails("an equal one", ARGUMENT, () -> x.addRung(t, 40));
            Check.fails("one less", ARGUMENT, () -> x.addRung(t, 39));
            Check.due("one more", x.addRung(t, 41), 1);
            Check.fails("less than the rung below, more than the lowest", ARGUMENT,
                () -> x.addRung(t, 41));
            Check.due("the other track has its own rates", x.addRung(1 - t, 1), 0);
        }
    }

    private static void fillLadder(int track, int most) {
        StreamPlayer x = new StreamPlayer();
        x.setParameter(0, 100);
        for (int i = 0; i < most; i++) {
            Check.due("rung " + i, x.addRung(track, 100 * (i + 1)), i);
        }
        Check.fails("one too many", STATE, () -> x.addRung(track, 1000));
        for (int i = 0; i < most; i++) {
            Check.due("size of rung " + i, x.size(track, i, 0),
                100 * (i + 1) * (85 + (13 * i + 3 * track) % 31));
        }
        Check.fails("size of one more", INDEX, () -> x.size(track, most, 0));
        Check.due("the other ladder is still empty", x.addRung(1 - track, 1), 0);
        x.clear();
        Check.due("an emptied one takes rungs again", x.addRung(track, 1), 0);
    }

    private static void parameters() {
        for (int parameter = 0; parameter < PARAMETERS.length; parameter++) {
            int p = parameter;
            Check.sentence("Parameters", PARAMETERS[p], () -> range(p));
        }
        Check.sentence("Promise 2", "parameter: 0 to 14", () -> {
            StreamPlayer x = new StreamPlayer();
            Check.fails("-1", INDEX, () -> x.setParameter(-1, 1000));
            Check.due("0", x.setParameter(0, 1000), 2000);
            Check.due("14", x.setParameter(14, 1000), 60000);
            Check.fails("15", INDEX, () -> x.setParameter(15, 1000));
        });
        Check.sentence("Promise 2", "Returns the previous value.", () -> {
            StreamPlayer x = new StreamPlayer();
            for (int p = 0; p < PARAMETERS.length; p++) {
                x.setParameter(p, LEAST[p]);
            }
            for (int p = 0; p < PARAMETERS.length; p++) {
                Check.due("parameter " + p, x.setParameter(p, GREATEST[p]), LEAST[p]);
            }
            for (int p = 0; p < PARAMETERS.length; p++) {
                Check.due("the same value again " + p, x.setParameter(p, GREATEST[p]), GREATEST[p]);
            }
        });
        Check.sentence("Parameters", "With their ranges and initial values",
            SettingsTest::initialValuesCount);
    }

    private static void range(int p) {
        StreamPlayer x = new StreamPlayer();
        Check.fails("one below the least", ARGUMENT, () -> x.setParameter(p, LEAST[p] - 1));
        Check.fails("one above the greatest", ARGUMENT, () -> x.setParameter(p, GREATEST[p] + 1));
        Check.due("the least, after the initial value", x.setParameter(p, LEAST[p]), INITIAL[p]);
        Check.due("the greatest", x.setParameter(p, GREATEST[p]), LEAST[p]);
        Check.fails("still one below the least", ARGUMENT, () -> x.setParameter(p, LEAST[p] - 1));
        Check.fails("still one above", ARGUMENT, () -> x.setParameter(p, GREATEST[p] + 1));
        Check.due("the initial value again", x.setParameter(p, INITIAL[p]), GREATEST[p]);
    }

    /** A session by the initial values is like one by the same values, set one by one. */
    private static void initialValuesCount() {
        StreamPlayer x = new StreamPlayer();
        StreamPlayer y = new StreamPlayer();
        for (int p = 0; p < PARAMETERS.length; p++) {
            y.setParameter(p, GREATEST[p]);
            y.setParameter(p, INITIAL[p]);
        }
        StreamPlayer[] both = {x, y};
        for (StreamPlayer player : both) {
            Players.addVideo(player, 100, 300, 600);
            Players.addAudio(player, 20, 60);
            player.addPhase(9000, 900);
            player.addPhase(12000, 60);
            player.start();
        }
        for (int i = 0; i < 40; i++) {
            Check.due("position", x.run(2500), y.run(2500));
            Check.due("fingerprint", x.fingerprint(), y.fingerprint());
        }
        Check.due("it ended with the last of 30 segments", x.position(), 60000);
    }

    private static void phases() {
        Check.sentence("Promise 4", "length: 1 to 100000", () -> {
            StreamPlayer x = new StreamPlayer();
            Check.fails("0", ARGUMENT, () -> x.addPhase(0, 5));
            Check.fails("100001", ARGUMENT, () -> x.addPhase(100001, 5));
            Check.due("1", x.addPhase(1, 5), 1);
            Check.due("100000", x.addPhase(100000, 6), 2);
            Check.due("the last millisecond of both", x.bandwidth(100000), 6);
            Check.due("the first one again", x.bandwidth(100001), 5);
        });
        Check.sentence("Promise 4", "rate: 0 to 100000", () -> {
            StreamPlayer x = new StreamPlayer();
            Check.fails("-1", ARGUMENT, () -> x.addPhase(5, -1));
            Check.fails("100001", ARGUMENT, () -> x.addPhase(5, 100001));
            Check.due("0", x.addPhase(5, 0), 1);
            Check.due("100000", x.addPhase(5, 100000), 2);
            Check.due("the least rate", x.bandwidth(0), 0);
            Check.due("the greatest rate", x.bandwidth(5), 100000);
        });
        Check.sentence("Network", "phases, at most 20", () -> {
            StreamPlayer x = new StreamPlayer();
            for (int i = 1; i <= 20; i++) {
                Check.due("phase " + i, x.addPhase(1, i), i);
            }
            Check.fails("the 21st", STATE, () -> x.addPhase(1, 1));
            for (int i = 0; i < 20; i++) {
                Check.due("rate " + i, x.bandwidth(i), i + 1);
            }
            Check.due("rate of the first one again", x.bandwidth(20), 1);
            Check.due("there are 20", x.clear(), 20);
            Check.due("an emptied plan takes phases again", x.addPhase(1, 1), 1);
        });
    }

    private static void clear() {
        Check.sentence("Promise 5", "Empties both ladders and the plan.", () -> {
            StreamPlayer x = Situation.FULL.make();
            x.clear();
            Check.fails("no video is left", INDEX, () -> x.size(0, 0, 0));
            Check.fails("no audio is left", INDEX, () -> x.size(1, 0, 0));
            Check.due("no phase is left", x.bandwidth(5), 0);
            Check.due("a smaller rate at the bottom of video", x.addRung(0, 3), 0);
            Check.due("a smaller rate at the bottom of audio", x.addRung(1, 3), 0);
            Check.due("the first phase", x.addPhase(7, 30), 1);
            Check.due("only the new phase counts", x.bandwidth(13), 30);
            Check.due("and is repeated", x.bandwidth(14), 30);
        });
        Check.sentence("Promise 5", "The parameters stay.", () -> {
            StreamPlayer x = Situation.FULL.make();
            for (int p = 0; p < PARAMETERS.length; p++) {
                x.setParameter(p, GREATEST[p]);
            }
            x.clear();
            for (int p = 0; p < PARAMETERS.length; p++) {
                Check.due("parameter " + p, x.setParameter(p, LEAST[p]), GREATEST[p]);
            }
        });
        Check.sentence("Promise 5", "Returns the number of phases that there were.", () -> {
            Check.due("none", new StreamPlayer().clear(), 0);
            Check.due("one", Situation.NO_VIDEO.make().clear(), 1);
            Check.due("none, but rungs", Situation.NO_PHASES.make().clear(), 0);
            StreamPlayer full = Situation.FULL.make();
            Check.due("20", full.clear(), 20);
            Check.due("cleared again", full.clear(), 0);
        });
    }

    private static StreamPlayer threePhases() {
        StreamPlayer x = new StreamPlayer();
        x.addPhase(3, 500);
        x.addPhase(1, 0);
        x.addPhase(4, 70);
        return x;
    }

    private static void bandwidth() {
        Check.sentence("Network", "the plan begins at time 0", () -> {
            int[] due = {500, 500, 500, 0, 70, 70, 70, 70};
            for (int t = 0; t < due.length; t++) {
                Check.due("bandwidth " + t, threePhases().bandwidth(t), due[t]);
            }
        });
        Check.sentence("Network", "is repeated without end", SettingsTest::repeated);
        Check.sentence("Promise 6", "a time, 0 or more", () -> {
            StreamPlayer x = threePhases();
            Check.fails("-1", ARGUMENT, () -> x.bandwidth(-1));
            Check.fails("the least int", ARGUMENT, () -> x.bandwidth(Integer.MIN_VALUE));
            Check.due("0", x.bandwidth(0), 500);
            // The greatest int is 7 above a multiple of 8.
            Check.due("the greatest int", x.bandwidth(Integer.MAX_VALUE), 70);
        });
        Check.sentence("Promise 6", "0 if there are no phases", () -> {
            StreamPlayer x = new StreamPlayer();
            Check.due("at 0", x.bandwidth(0), 0);
            Check.due("at the greatest int", x.bandwidth(Integer.MAX_VALUE), 0);
            Check.fails("a negative time is refused all the same", ARGUMENT, () -> x.bandwidth(-1));
            x.addPhase(1, 9);
            x.clear();
            Check.due("after clear", x.bandwidth(1), 0);
        });
    }

    private static void repeated() {
        StreamPlayer x = threePhases();
        Check.due("the last millisecond", x.bandwidth(7), 70);
        Check.due("the first one again", x.bandwidth(8), 500);
        Check.due("the last of the first phase again", x.bandwidth(10), 500);
        Check.due("the second phase again", x.bandwidth(11), 0);
        Check.due("a million times later", x.bandwidth(8000003), 0);
        StreamPlayer shortest = new StreamPlayer();
        shortest.addPhase(1, 5);
        Check.due("a plan of one millisecond", shortest.bandwidth(1), 5);
        Check.due("and at the greatest int", shortest.bandwidth(Integer.MAX_VALUE), 5);
        StreamPlayer longest = new StreamPlayer();
        for (int i = 1; i <= 20; i++) {
            longest.addPhase(100000, i);
        }
        Check.due("the longest plan: its last millisecond", longest.bandwidth(1999999), 20);
        Check.due("the longest plan: again", longest.bandwidth(2000000), 1);
        // 2147483647 = 1073 * 2000000 + 1483647
        Check.due("the longest plan: at the greatest int", longest.bandwidth(Integer.MAX_VALUE), 15);
    }

    private static void sizes() {
        Check.sentence("Segments", "(85 + (7 * i + 13 * r + 3 * t) modulo 31) / 100",
            SettingsTest::modulo31);
        Check.sentence("Segments", "rounded down", () -> {
            StreamPlayer x = new StreamPlayer();
            x.setParameter(0, 101);
            x.addRung(0, 3);
            x.addRung(1, 7);
            // 303 * 85 / 100 = 257.55; 303 * 113 / 100 = 342.39; 707 * 102 / 100 = 721.14
            Check.due("257.55", x.size(0, 0, 0), 257);
            Check.due("342.39", x.size(0, 0, 4), 342);
            Check.due("721.14", x.size(1, 0, 2), 721);
        });
        Check.sentence("Segments", "but at least 1", () -> {
            StreamPlayer x = new StreamPlayer();
            x.setParameter(0, 100);
            x.addRung(0, 1);
            x.addRung(1, 1);
            Check.due("the least size that there is", x.size(0, 0, 0), 85);
            Check.due("the least size of audio", x.size(1, 0, 4), 85);
        });
        Check.sentence("Promise 7", "Returns the number of bits.", () -> {
            StreamPlayer x = new StreamPlayer();
            x.setParameter(0, 10000);
            x.setParameter(1, 200);
            x.addRung(0, 1);
            x.addRung(0, 50000);
            // 5000000 times a percent of 85 + 13 + 14 = 112; 7 * 31 is 0 modulo 31
            Check.due("a product above all ints", x.size(0, 1, 2), 560000000L);
            Check.due("of the segment 31", x.size(0, 0, 31), 8500);
            Check.due("of the last one", x.size(0, 1, 199), 5000000L * (85 + (1393 + 13) % 31));
        });
        Check.sentence("Segments", "Both tracks have the same number of segments, numbered from 0",
            SettingsTest::segmentsOfBoth);
    }

    /** With 100 bits a millisecond for 100 ms, a size is a hundred times its percents. */
    private static void modulo31() {
        StreamPlayer x = new StreamPlayer();
        x.setParameter(0, 100);
        Players.addVideo(x, 100, 101);
        Players.addAudio(x, 100, 101);
        Check.due("0", x.size(0, 0, 0), 8500);
        Check.due("27 + 3 = 30, the greatest rest", x.size(1, 1, 2), 101 * 115);
        Check.due("28 + 3 = 31, the rest 0", x.size(1, 0, 4), 8500);
        Check.due("28", x.size(0, 0, 4), 11300);
        Check.due("35", x.size(0, 0, 5), 8900);
        Check.due("13", x.size(0, 1, 0), 101 * 98);
        Check.due("13 + 7 * 29 = 216", x.size(0, 1, 29), 101 * (85 + 30));
    }

    private static void segmentsOfBoth() {
        int[] numbers = {30, 1, 200, 7};
        StreamPlayer x = new StreamPlayer();
        x.addRung(0, 9);
        x.addRung(1, 9);
        for (int n : numbers) {
            x.setParameter(1, n);
            for (int track = 0; track < 2; track++) {
                int t = track;
                Check.fails("segment -1 of " + n, INDEX, () -> x.size(t, 0, -1));
                Check.due("segment 0 of " + n, x.size(t, 0, 0), 180 * (85 + 3 * t));
                Check.due("the last of " + n, x.size(t, 0, n - 1),
                    180 * (85 + (7 * (n - 1) + 3 * t) % 31));
                Check.fails("one more of " + n, INDEX, () -> x.size(t, 0, n));
            }
        }
    }
}
