import java.util.Random;

/** Plays many runs of calls on a player and on the model; each call must say the same on both. */
public final class ModelTest {
    private static final int RUNS = 1500;
    // An object is good for 512 calls; a step takes at most 50, when it settles anew.
    private static final int MOST_CALLS = 512;
    private static final int CALLS_OF_A_STEP = 50;
    private static final int[] ODD = {
        Integer.MIN_VALUE, -60001, -1, 0, 1, 2, 3, 5, 6, 7, 15, 16, 20, 199, 200, 10000, 20000,
        20001, 50000, 50001, 60000, 100000, 100001, 10000000, Integer.MAX_VALUE
    };

    private final Random random;
    private final StreamPlayer player = new StreamPlayer();
    private final Model model = new Model();
    private final StringBuilder story = new StringBuilder();
    private int called = 1;

    private ModelTest(long seed) {
        random = new Random(seed);
        story.append("run ").append(seed).append(": ");
    }

    public static void main(String[] args) {
        for (int seed = 1; seed <= RUNS && Check.wrongSoFar() == 0; seed++) {
            new ModelTest(seed).play();
        }
        Check.end();
    }

    private void play() {
        settle();
        while (called + CALLS_OF_A_STEP <= MOST_CALLS && Check.wrongSoFar() == 0) {
            if (random.nextInt(25) == 0) {
                oddCall();
            } else if (random.nextInt(30) == 0) {
                stopAndSettle();
            } else if (random.nextInt(3) == 0) {
                passTime();
            } else {
                ask(random.nextInt(20));
            }
            compareAll();
        }
    }

    private void same(String name, Check.Call got, Check.Call want) {
        called++;
        story.append(name).append("; ");
        Check.same(story.length() > 3000 ? story.substring(story.length() - 3000)
            : story.toString(), got, want);
    }

    /** The whole outside of the session, without writing each call into the story. */
    private void compareAll() {
        called += 3;
        Check.same(story + "fingerprint", player::fingerprint, model::fingerprint);
        Check.same(story + "nextRung", player::nextRung, model::nextRung);
        Check.same(story + "score", player::score, model::score);
    }

    private void settle() {
        int length = pick(100, 200, 250, 500, 333, 1000);
        set(0, length);
        set(1, 1 + random.nextInt(random.nextInt(8) == 0 ? 200 : 25));
        set(2, pick(0, 0, 1, 20, 50, 400));
        set(3, random.nextInt(4) * length + pick(0, 0, 1, -1, 37));
        set(4, random.nextInt(3) * length + pick(0, 0, 1, 37));
        int low = random.nextInt(4) * length + pick(0, 0, 50);
        set(5, low);
        set(6, low + random.nextInt(6) * length - pick(0, 0, 0, 100));
        set(7, Math.max(1000, random.nextInt(12) * length + pick(0, 0, 1)));
        set(8, 1 + random.nextInt(10));
        set(9, pick(10, 50, 80, 80, 100, 100));
        set(10, pick(0, 0, 200, 1000, 3000));
        set(11, pick(0, 0, 10, 100, 500));
        set(12, random.nextInt(3));
        set(13, pick(0, 0, 0, 1, length, 3 * length, 1500, 5000));
        set(14, pick(0, 100, 500, 1000, 2000, 60000));
        addRungs(0, random.nextInt(20) == 0 ? 0 : 1 + random.nextInt(6), 20 + random.nextInt(300));
        addRungs(1, random.nextInt(4), 5 + random.nextInt(60));
        int phases = random.nextInt(20) == 0 ? 0 : 1 + random.nextInt(random.nextInt(9) == 0 ? 20 : 4);
        for (int i = 0; i < phases; i++) {
            int span = 1 + random.nextInt(pick(5, 300, 2500));
            int rate = pick(0, 30, 100, 300, 1000, 5000);
            int jitter = random.nextInt(1 + rate);
            same("addPhase(" + span + ", " + (rate + jitter) + ")",
                () -> player.addPhase(span, rate + jitter), () -> model.addPhase(span, rate + jitter));
        }
        same("start()", player::start, model::start);
    }

    private void addRungs(int track, int rungs, int lowest) {
        int rate = lowest;
        for (int i = 0; i < rungs; i++) {
            int now = rate;
            same("addRung(" + track + ", " + now + ")",
                () -> player.addRung(track, now), () -> model.addRung(track, now));
            rate += 1 + random.nextInt(pick(3, 40, 2 * rate));
        }
    }

    private void stopAndSettle() {
        same("stop()", player::stop, model::stop);
        if (random.nextBoolean()) {
            same("clear()", player::clear, model::clear);
            settle();
        } else {
            same("start()", player::start, model::start);
        }
    }

    private void set(int parameter, int value) {
        same("setParameter(" + parameter + ", " + value + ")",
            () -> player.setParameter(parameter, value), () -> model.setParameter(parameter, value));
    }

    private void passTime() {
        int span = random.nextInt(pick(1, 3, 50, 300, 1500, 4000));
        same("run(" + span + ")", () -> player.run(span), () -> model.run(span));
    }

    private void ask(int which) {
        int few = random.nextInt(7) - 1;
        int track = random.nextInt(12) == 0 ? few : random.nextInt(2);
        int segment = random.nextInt(26) - 1;
        int span = random.nextInt(pick(1, 200, 3000));
        switch (which) {
            case 0: same("state()", player::state, model::state); break;
            case 1: same("time()", player::time, model::time); break;
            case 2: same("position()", player::position, model::position); break;
            case 3: same("buffer " + track, () -> player.buffer(track), () -> model.buffer(track)); break;
            case 4: same("downloaded " + track,
                () -> player.downloaded(track), () -> model.downloaded(track)); break;
            case 5: same("rungOf " + track + " " + segment,
                () -> player.rungOf(track, segment), () -> model.rungOf(track, segment)); break;
            case 6: same("download " + few, () -> player.download(few), () -> model.download(few)); break;
            case 7: same("received()", player::received, model::received); break;
            case 8: same("estimate()", player::estimate, model::estimate); break;
            case 9: same("latency()", player::latency, model::latency); break;
            case 10: same("spent " + few, () -> player.spent(few), () -> model.spent(few)); break;
            case 11: same("count " + few, () -> player.count(few), () -> model.count(few)); break;
            case 12: same("wasted()", player::wasted, model::wasted); break;
            case 13: same("quality()", player::quality, model::quality); break;
            case 14: same("timeLine " + segment,
                () -> player.timeLine(segment), () -> model.timeLine(segment)); break;
            case 15: same("forecast " + span + " " + few,
                () -> player.forecast(span, few), () -> model.forecast(span, few)); break;
            case 16: same("trialScore " + few + " " + span,
                () -> player.trialScore(few, span), () -> model.trialScore(few, span)); break;
            case 17: same("bestMode " + span, () -> player.bestMode(span), () -> model.bestMode(span)); break;
            case 18: same("leastStart " + span,
                () -> player.leastStart(span), () -> model.leastStart(span)); break;
            default: same("size " + track + " " + few + " " + segment,
                () -> player.size(track, few, segment), () -> model.size(track, few, segment)); break;
        }
    }

    /** A call with arguments from all over the range of int. */
    private void oddCall() {
        int a = pick(ODD);
        int b = pick(ODD);
        int c = pick(ODD);
        // Time that really passes is kept short, for the model is slow.
        int span = a > 3 && a <= 20000 ? 20001 : a;
        String with = " " + a + " " + b + " " + c;
        switch (random.nextInt(17)) {
            case 0: same("odd setParameter" + with,
                () -> player.setParameter(a, b), () -> model.setParameter(a, b)); break;
            case 1: same("odd addRung" + with, () -> player.addRung(a, b), () -> model.addRung(a, b)); break;
            case 2: same("odd addPhase" + with, () -> player.addPhase(a, b), () -> model.addPhase(a, b)); break;
            case 3: same("odd bandwidth" + with, () -> player.bandwidth(a), () -> model.bandwidth(a)); break;
            case 4: same("odd size" + with, () -> player.size(a, b, c), () -> model.size(a, b, c)); break;
            case 5: same("odd run " + span, () -> player.run(span), () -> model.run(span)); break;
            case 6: same("odd buffer" + with, () -> player.buffer(a), () -> model.buffer(a)); break;
            case 7: same("odd downloaded" + with, () -> player.downloaded(a), () -> model.downloaded(a)); break;
            case 8: same("odd rungOf" + with, () -> player.rungOf(a, b), () -> model.rungOf(a, b)); break;
            case 9: same("odd download" + with, () -> player.download(a), () -> model.download(a)); break;
            case 10: same("odd spent" + with, () -> player.spent(a), () -> model.spent(a)); break;
            case 11: same("odd count" + with, () -> player.count(a), () -> model.count(a)); break;
            case 12: same("odd timeLine" + with, () -> player.timeLine(a), () -> model.timeLine(a)); break;
            case 13: same("odd forecast" + with + " " + span,
                () -> player.forecast(span, b), () -> model.forecast(span, b)); break;
            case 14: same("odd trialScore" + with + " " + span,
                () -> player.trialScore(b, span), () -> model.trialScore(b, span)); break;
            case 15: same("odd bestMode " + span,
                () -> player.bestMode(span), () -> model.bestMode(span)); break;
            default: same("odd leastStart " + span,
                () -> player.leastStart(span), () -> model.leastStart(span)); break;
        }
    }

    private int pick(int... values) {
        return values[random.nextInt(values.length)];
    }
}
