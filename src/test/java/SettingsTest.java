/** Promises 1 to 7: what is set before a session. */
public final class SettingsTest {
    private static final Class<IndexOutOfBoundsException> INDEX = IndexOutOfBoundsException.class;
    private static final Class<IllegalArgumentException> ARGUMENT = IllegalArgumentException.class;
    private static final Class<IllegalStateException> STATE = IllegalStateException.class;
    private static final int[] LEAST = {100, 1, 0, 0, 0, 0, 0, 1000, 1, 10, 0, 0, 0, 0, 0};
    private static final int[] GREATEST = {
        10000, 200, 2000, 60000, 60000, 60000, 60000, 60000, 10, 100, 20000, 5000, 2, 60000, 60000
    };
    private static final int[] FIRST = {
        2000, 30, 50, 2000, 2000, 4000, 10000, 20000, 3, 80, 0, 500, 2, 0, 60000
    };

    private SettingsTest() {
    }

    public static void main(String[] args) {
        newObject();
        setParameter();
        addRung();
        addPhase();
        clear();
        bandwidth();
        size();
        duringSession();
        Check.end();
    }

    private static void newObject() {
        StreamPlayer x = new StreamPlayer();
        Check.due("new: state", x.state(), 0);
        Check.due("new: fingerprint", x.fingerprint(), 1829);
        Check.due("new: bandwidth", x.bandwidth(0), 0);
        Check.due("new: clear", x.clear(), 0);
        Check.fails("new: size of video", INDEX, () -> x.size(0, 0, 0));
        Check.fails("new: size of audio", INDEX, () -> x.size(1, 0, 0));
        Check.fails("new: start", STATE, x::start);
        Check.fails("new: time", STATE, x::time);
        for (int i = 0; i < FIRST.length; i++) {
            Check.due("new: parameter " + i, x.setParameter(i, LEAST[i]), FIRST[i]);
        }
    }

    private static void setParameter() {
        StreamPlayer x = new StreamPlayer();
        for (int i = 0; i < FIRST.length; i++) {
            int p = i;
            Check.due("to the least " + p, x.setParameter(p, LEAST[p]), FIRST[p]);
            Check.due("to the greatest " + p, x.setParameter(p, GREATEST[p]), LEAST[p]);
            Check.fails("below the least " + p, ARGUMENT, () -> x.setParameter(p, LEAST[p] - 1));
            Check.fails("above the greatest " + p, ARGUMENT, () -> x.setParameter(p, GREATEST[p] + 1));
            Check.fails("least int " + p, ARGUMENT, () -> x.setParameter(p, Integer.MIN_VALUE));
            Check.fails("greatest int " + p, ARGUMENT, () -> x.setParameter(p, Integer.MAX_VALUE));
        }
        for (int i = 0; i < FIRST.length; i++) {
            Check.due("wrong values change nothing " + i, x.setParameter(i, FIRST[i]), GREATEST[i]);
        }
        int[] wrong = {-1, 15, Integer.MIN_VALUE, Integer.MAX_VALUE};
        for (int p : wrong) {
            Check.fails("parameter " + p, INDEX, () -> x.setParameter(p, 1000));
            Check.fails("parameter before value " + p, INDEX, () -> x.setParameter(p, -1));
        }
    }

    private static void addRung() {
        StreamPlayer x = new StreamPlayer();
        Check.fails("rate 0", ARGUMENT, () -> x.addRung(0, 0));
        Check.fails("rate -1", ARGUMENT, () -> x.addRung(1, -1));
        Check.fails("rate 50001", ARGUMENT, () -> x.addRung(0, 50001));
        Check.fails("track 2", INDEX, () -> x.addRung(2, 5));
        Check.fails("track -1 before rate", INDEX, () -> x.addRung(-1, 0));
        Check.due("least rate", x.addRung(0, 1), 0);
        Check.fails("equal rate", ARGUMENT, () -> x.addRung(0, 1));
        for (int i = 1; i <= 4; i++) {
            Check.due("video rung " + i, x.addRung(0, 10 * i), i);
        }
        Check.fails("smaller rate", ARGUMENT, () -> x.addRung(0, 39));
        Check.due("last video rung", x.addRung(0, 41), 5);
        Check.fails("video is full", STATE, () -> x.addRung(0, 42));
        Check.fails("rate before full", ARGUMENT, () -> x.addRung(0, 41));
        Check.fails("rate 50001 before full", ARGUMENT, () -> x.addRung(0, 50001));
        Check.due("audio has its own ladder", x.addRung(1, 7), 0);
        Check.due("audio rung 1", x.addRung(1, 8), 1);
        Check.due("audio rung 2", x.addRung(1, 50000), 2);
        Check.fails("nothing is above the greatest rate", ARGUMENT, () -> x.addRung(1, 50000));
        StreamPlayer y = new StreamPlayer();
        for (int i = 1; i <= 3; i++) {
            y.addRung(1, i);
        }
        Check.fails("audio is full", STATE, () -> y.addRung(1, 4));
        Check.due("greatest rate", y.addRung(0, 50000), 0);
    }

    private static void addPhase() {
        StreamPlayer x = new StreamPlayer();
        Check.fails("length 0", ARGUMENT, () -> x.addPhase(0, 5));
        Check.fails("length -1", ARGUMENT, () -> x.addPhase(-1, 5));
        Check.fails("length 100001", ARGUMENT, () -> x.addPhase(100001, 5));
        Check.fails("rate -1", ARGUMENT, () -> x.addPhase(5, -1));
        Check.fails("rate 100001", ARGUMENT, () -> x.addPhase(5, 100001));
        Check.due("least phase", x.addPhase(1, 0), 1);
        Check.due("greatest phase", x.addPhase(100000, 100000), 2);
        for (int i = 3; i <= 20; i++) {
            Check.due("phase " + i, x.addPhase(i, i), i);
        }
        Check.fails("21st phase", STATE, () -> x.addPhase(1, 1));
        Check.fails("argument before full", ARGUMENT, () -> x.addPhase(0, 1));
        Check.due("still 20 phases", x.clear(), 20);
    }

    private static void clear() {
        StreamPlayer x = new StreamPlayer();
        x.setParameter(0, 700);
        x.addRung(0, 50);
        x.addRung(0, 60);
        x.addRung(1, 50);
        x.addPhase(10, 20);
        x.addPhase(10, 40);
        Check.due("clear", x.clear(), 2);
        Check.due("no phases are left", x.bandwidth(5), 0);
        Check.fails("no video is left", INDEX, () -> x.size(0, 0, 0));
        Check.fails("no audio is left", INDEX, () -> x.size(1, 0, 0));
        Check.due("cleared again", x.clear(), 0);
        Check.due("a smaller rate at the bottom", x.addRung(0, 3), 0);
        Check.due("the same for audio", x.addRung(1, 3), 0);
        Check.due("first phase", x.addPhase(10, 30), 1);
        Check.due("only the new phase counts", x.bandwidth(15), 30);
        Check.due("the parameters stay", x.setParameter(0, 800), 700);
    }

    private static void bandwidth() {
        StreamPlayer x = new StreamPlayer();
        x.addPhase(3, 500);
        x.addPhase(1, 0);
        x.addPhase(4, 70);
        int[] due = {500, 500, 500, 0, 70, 70, 70, 70, 500, 500, 500, 0, 70};
        for (int t = 0; t < due.length; t++) {
            Check.due("bandwidth " + t, x.bandwidth(t), due[t]);
        }
        Check.due("bandwidth, far", x.bandwidth(8000003), 0);
        Check.due("bandwidth, greatest time", x.bandwidth(Integer.MAX_VALUE), 70);
        Check.fails("bandwidth -1", ARGUMENT, () -> x.bandwidth(-1));
        Check.fails("bandwidth, least int", ARGUMENT, () -> x.bandwidth(Integer.MIN_VALUE));
        StreamPlayer shortest = new StreamPlayer();
        shortest.addPhase(1, 5);
        Check.due("the shortest plan", shortest.bandwidth(77), 5);
        StreamPlayer y = new StreamPlayer();
        Check.fails("negative also without phases", ARGUMENT, () -> y.bandwidth(-1));
        Check.due("no phases", y.bandwidth(Integer.MAX_VALUE), 0);
    }

    private static void size() {
        StreamPlayer x = new StreamPlayer();
        x.setParameter(0, 101);
        x.setParameter(1, 40);
        x.addRung(0, 3);
        x.addRung(0, 50000);
        x.addRung(1, 7);
        // 3 * 101 * 85 / 100 = 257.55
        Check.due("rounded down", x.size(0, 0, 0), 257);
        // 85 + 28 = 113; 303 * 113 / 100 = 342.39
        Check.due("segment 4", x.size(0, 0, 4), 342);
        // 85 + 35 - 31 = 89; 303 * 89 / 100 = 269.67
        Check.due("segment 5, around 31", x.size(0, 0, 5), 269);
        // 7 * 39 + 13 = 286 = 9 * 31 + 7; 5050000 * 92 / 100
        Check.due("last segment of rung 1", x.size(0, 1, 39), 4646000);
        // 85 + 3 + 14 = 102; 707 * 102 / 100 = 721.14
        Check.due("audio", x.size(1, 0, 2), 721);
        x.setParameter(0, 10000);
        // 85 + 13 + 7 * 2 = 112
        Check.due("more than an int's product", x.size(0, 1, 2), 560000000L);
        Check.fails("segment 40", INDEX, () -> x.size(0, 0, 40));
        Check.fails("segment -1", INDEX, () -> x.size(0, 0, -1));
        Check.fails("rung 2", INDEX, () -> x.size(0, 2, 0));
        Check.fails("rung -1", INDEX, () -> x.size(0, -1, 0));
        Check.fails("audio rung 1", INDEX, () -> x.size(1, 1, 0));
        Check.fails("track 2", INDEX, () -> x.size(2, 0, 0));
        Check.fails("track -1", INDEX, () -> x.size(-1, 0, 0));
        Check.fails("greatest ints", INDEX,
            () -> x.size(Integer.MAX_VALUE, Integer.MAX_VALUE, Integer.MAX_VALUE));
        x.setParameter(1, 200);
        Check.due("segment 199 of 200", x.size(0, 1, 199), 50000L * 100 * (85 + 1406 % 31));
        Check.fails("segment 200", INDEX, () -> x.size(0, 0, 200));
    }

    private static void duringSession() {
        StreamPlayer x = new StreamPlayer();
        x.setParameter(1, 1);
        x.addRung(0, 5);
        x.addPhase(10, 30);
        x.start();
        settingsAreRefused(x, "starting");
        x.run(20000);
        Check.due("the session has ended", x.state(), 4);
        settingsAreRefused(x, "ended");
        x.stop();
        Check.due("free again: parameter", x.setParameter(2, 9), 50);
        Check.due("free again: rung", x.addRung(0, 6), 1);
        Check.due("free again: phase", x.addPhase(10, 60), 2);
    }

    private static void settingsAreRefused(StreamPlayer x, String when) {
        Check.fails(when + ": setParameter", STATE, () -> x.setParameter(2, 9));
        Check.fails(when + ": value first", ARGUMENT, () -> x.setParameter(2, 2001));
        Check.fails(when + ": parameter first", INDEX, () -> x.setParameter(15, 2001));
        Check.fails(when + ": addRung", STATE, () -> x.addRung(0, 6));
        Check.fails(when + ": addRung to audio", STATE, () -> x.addRung(1, 6));
        Check.fails(when + ": rate first", ARGUMENT, () -> x.addRung(0, 5));
        Check.fails(when + ": track first", INDEX, () -> x.addRung(2, 5));
        Check.fails(when + ": addPhase", STATE, () -> x.addPhase(10, 60));
        Check.fails(when + ": length first", ARGUMENT, () -> x.addPhase(0, 60));
        Check.fails(when + ": clear", STATE, x::clear);
        Check.due(when + ": bandwidth", x.bandwidth(25), 30);
        Check.due(when + ": size", x.size(0, 0, 0), 8500);
    }
}
