/**
 * Each call that the document refuses, in each situation: the exception that it lists first for it,
 * and nothing changed behind it, neither what can be seen at once nor what comes later.
 */
public final class RefusalTest {
    private static final Class<IndexOutOfBoundsException> INDEX = IndexOutOfBoundsException.class;
    private static final Class<IllegalArgumentException> ARGUMENT = IllegalArgumentException.class;
    private static final Class<IllegalStateException> STATE = IllegalStateException.class;
    private static final Situation[] ALWAYS = Situation.values();
    private static final Situation[] IN_SESSION = Situation.WITH_SESSION;
    private static final Situation[] NO_SESSION = Situation.WITHOUT_SESSION;
    private static final Situation[] NOT_PLAYABLE = Situation.NOT_PLAYABLE;
    private static final int MIN = Integer.MIN_VALUE;
    private static final int MAX = Integer.MAX_VALUE;
    private static final int[] LEAST = {100, 1, 0, 0, 0, 0, 0, 1000, 1, 10, 0, 0, 0, 0, 0};
    private static final int[] GREATEST = {
        10000, 200, 2000, 60000, 60000, 60000, 60000, 60000, 10, 100, 20000, 5000, 2, 60000, 60000
    };

    private RefusalTest() {
    }

    public static void main(String[] args) {
        Check.sentence("Session", "a state: 0 there is no session, 1 starting, 2 playing, 3 stalled, "
            + "4 ended", RefusalTest::situations);
        settings();
        session();
        questions();
        accounts();
        forecasts();
        severalApply();
        Check.end();
    }

    /** The situations are what they are called, for else the refusals would tell nothing. */
    private static void situations() {
        int[] due = {0, 0, 0, 0, 0, 1, 1, 2, 3, 4, 0};
        for (Situation s : Situation.values()) {
            Check.due(s + ": state", s.make().state(), due[s.ordinal()]);
        }
        StreamPlayer playing = Situation.PLAYING.make();
        Check.holds("something was abandoned", playing.count(1) > 0 && playing.wasted() > 0);
        Check.holds("something was switched", playing.count(3) > 0);
        Check.holds("something is being received", playing.received() > 0);
    }

    private static void refused(String promise, String words, Class<? extends RuntimeException> want,
            Situation[] when, Snapshot.Ask... calls) {
        Check.sentence(promise + ", " + want.getSimpleName(), words, () -> {
            for (Situation situation : when) {
                for (int i = 0; i < calls.length; i++) {
                    refuse(situation + ", call " + (i + 1), want, situation, calls[i]);
                }
            }
        });
    }

    private static void refuse(String what, Class<? extends RuntimeException> want,
            Situation situation, Snapshot.Ask call) {
        StreamPlayer x = situation.make();
        StreamPlayer twin = situation.make();
        Check.fails(what, want, () -> call.of(x));
        Snapshot.compare(what, x, twin);
    }

    private static void settings() {
        refused("Promise 2", "if parameter is out of its range", INDEX, ALWAYS,
            x -> x.setParameter(-1, 1000), x -> x.setParameter(15, 1000),
            x -> x.setParameter(MIN, 1000), x -> x.setParameter(MAX, 1000),
            x -> x.setParameter(-1, -1), x -> x.setParameter(15, MAX));
        for (int parameter = 0; parameter < LEAST.length; parameter++) {
            int p = parameter;
            refused("Promise 2, parameter " + p, "if value is out of its range", ARGUMENT, ALWAYS,
                x -> x.setParameter(p, LEAST[p] - 1), x -> x.setParameter(p, GREATEST[p] + 1),
                x -> x.setParameter(p, MIN), x -> x.setParameter(p, MAX));
            refused("Promise 2, parameter " + p, "if there is a session", STATE, IN_SESSION,
                x -> x.setParameter(p, LEAST[p]), x -> x.setParameter(p, GREATEST[p]));
        }
        rungs();
        refused("Promise 4", "if an argument is out of its range", ARGUMENT, ALWAYS,
            x -> x.addPhase(0, 5), x -> x.addPhase(-1, 5), x -> x.addPhase(100001, 5),
            x -> x.addPhase(MIN, 5), x -> x.addPhase(MAX, 5),
            x -> x.addPhase(5, -1), x -> x.addPhase(5, 100001),
            x -> x.addPhase(5, MIN), x -> x.addPhase(5, MAX), x -> x.addPhase(0, -1));
        refused("Promise 4", "if there is a session", STATE, IN_SESSION,
            x -> x.addPhase(1, 0), x -> x.addPhase(100000, 100000));
        refused("Promise 4", "there are 20 phases", STATE, only(Situation.FULL),
            x -> x.addPhase(1, 0), x -> x.addPhase(100000, 100000));
        refused("Promise 5", "if there is a session", STATE, IN_SESSION, x -> x.clear());
        refused("Promise 6", "if time is negative", ARGUMENT, ALWAYS,
            x -> x.bandwidth(-1), x -> x.bandwidth(MIN));
        sizes();
    }

    private static void rungs() {
        refused("Promise 3", "if track is not 0 or 1", INDEX, ALWAYS,
            x -> x.addRung(-1, 700), x -> x.addRung(2, 700), x -> x.addRung(MIN, 700),
            x -> x.addRung(MAX, 700), x -> x.addRung(-1, 0), x -> x.addRung(2, 50001));
        refused("Promise 3", "if rate is out of its range", ARGUMENT, ALWAYS,
            x -> x.addRung(0, 0), x -> x.addRung(0, -1), x -> x.addRung(0, 50001),
            x -> x.addRung(1, 0), x -> x.addRung(1, -1), x -> x.addRung(1, 50001),
            x -> x.addRung(0, MIN), x -> x.addRung(0, MAX), x -> x.addRung(1, MAX));
        // The greatest rates are 200 of video and 20 of audio.
        refused("Promise 3", "not greater than that of the rung below", ARGUMENT,
            Situation.WITH_RUNGS,
            x -> x.addRung(0, 200), x -> x.addRung(0, 199), x -> x.addRung(0, 1),
            x -> x.addRung(1, 20), x -> x.addRung(1, 19), x -> x.addRung(1, 1));
        refused("Promise 3", "not greater than that of the rung below", ARGUMENT,
            only(Situation.FULL), x -> x.addRung(0, 600), x -> x.addRung(1, 30));
        refused("Promise 3", "if there is a session", STATE, IN_SESSION,
            x -> x.addRung(0, 201), x -> x.addRung(0, 50000),
            x -> x.addRung(1, 21), x -> x.addRung(1, 50000));
        refused("Promise 3", "the ladder is full", STATE, only(Situation.FULL),
            x -> x.addRung(0, 601), x -> x.addRung(0, 50000),
            x -> x.addRung(1, 31), x -> x.addRung(1, 50000));
    }

    private static void sizes() {
        String words = "if there is no such track, rung or segment";
        refused("Promise 7, tracks", words, INDEX, ALWAYS,
            x -> x.size(-1, 0, 0), x -> x.size(2, 0, 0),
            x -> x.size(MIN, 0, 0), x -> x.size(MAX, 0, 0));
        refused("Promise 7, rungs that there never are", words, INDEX, ALWAYS,
            x -> x.size(0, -1, 0), x -> x.size(1, -1, 0), x -> x.size(0, 6, 0),
            x -> x.size(1, 3, 0), x -> x.size(0, MIN, 0), x -> x.size(1, MAX, 0));
        refused("Promise 7, one rung more", words, INDEX, Situation.WITH_RUNGS,
            x -> x.size(0, 2, 0), x -> x.size(1, 1, 0));
        refused("Promise 7, empty ladders", words, INDEX, only(Situation.NEW),
            x -> x.size(0, 0, 0), x -> x.size(1, 0, 0));
        refused("Promise 7, an empty ladder", words, INDEX, only(Situation.NO_VIDEO),
            x -> x.size(0, 0, 0));
        refused("Promise 7, segments that there never are", words, INDEX, ALWAYS,
            x -> x.size(0, 0, -1), x -> x.size(1, 0, -1), x -> x.size(0, 0, 200),
            x -> x.size(0, 0, MIN), x -> x.size(1, 0, MAX));
        refused("Promise 7, one segment more", words, INDEX, Situation.WITH_RUNGS,
            x -> x.size(0, 0, 7), x -> x.size(1, 0, 7));
        refused("Promise 7, one segment more than 30", words, INDEX, only(Situation.FULL),
            x -> x.size(0, 0, 30), x -> x.size(1, 0, 30));
    }

    private static void session() {
        refused("Promise 8", "if there is a session", STATE, IN_SESSION, x -> x.start());
        refused("Promise 8", "there are no rungs of video", STATE, only(Situation.NO_VIDEO),
            x -> x.start());
        refused("Promise 8", "no phases", STATE, only(Situation.NO_PHASES), x -> x.start());
        refused("Promise 8, a new object", "there are no rungs of video, or no phases", STATE,
            only(Situation.NEW), x -> x.start());
        refused("Promise 9", "if there is no session", STATE, NO_SESSION, x -> x.stop());
        refused("Promise 10", "if milliseconds is out of its range", ARGUMENT, ALWAYS,
            x -> x.run(-1), x -> x.run(20001), x -> x.run(MIN), x -> x.run(MAX));
        refused("Promise 10", "if there is no session", STATE, NO_SESSION,
            x -> x.run(0), x -> x.run(1), x -> x.run(20000));
        Check.sentence("Promise 10, IllegalStateException", "its time would become greater than 10000000",
            RefusalTest::beyondTheLastTime);
        Check.sentence("Promise 10, at the last time", "Throws IllegalArgumentException if milliseconds is "
            + "out of its range", RefusalTest::argumentBeforeTheLastTime);
    }

    /** It takes 503 calls to come here, and an object has 512. */
    private static StreamPlayer atTime9999999() {
        StreamPlayer x = new StreamPlayer();
        x.addRung(0, 100);
        x.addPhase(1, 0);
        x.start();
        for (int i = 0; i < 499; i++) {
            x.run(20000);
        }
        x.run(19999);
        return x;
    }

    private static void beyondTheLastTime() {
        StreamPlayer x = atTime9999999();
        long before = x.fingerprint();
        Check.fails("two more", STATE, () -> x.run(2));
        Check.due("nothing is changed", x.fingerprint(), before);
        Check.due("one more", x.run(1), 0);
        Check.fails("one beyond the last time", STATE, () -> x.run(1));
        Check.due("the last time", x.time(), 10000000);
        Check.due("no time passes", x.run(0), 0);
        Check.due("stop", x.stop(), 10000000);
    }

    private static void argumentBeforeTheLastTime() {
        StreamPlayer x = atTime9999999();
        long before = x.fingerprint();
        Check.fails("20001", ARGUMENT, () -> x.run(20001));
        Check.fails("the greatest int", ARGUMENT, () -> x.run(MAX));
        Check.fails("-1", ARGUMENT, () -> x.run(-1));
        Check.due("nothing is changed", x.fingerprint(), before);
    }

    private static void questions() {
        refused("Promise 12", "if there is no session", STATE, NO_SESSION, x -> x.time());
        refused("Promise 13", "if there is no session", STATE, NO_SESSION, x -> x.position());
        refused("Promise 14", "if track is not 0 or 1", INDEX, ALWAYS, x -> x.buffer(-1),
            x -> x.buffer(2), x -> x.buffer(MIN), x -> x.buffer(MAX));
        refused("Promise 14", "if there is no session", STATE, NO_SESSION,
            x -> x.buffer(0), x -> x.buffer(1));
        refused("Promise 15", "if track is not 0 or 1", INDEX, ALWAYS, x -> x.downloaded(-1),
            x -> x.downloaded(2), x -> x.downloaded(MIN), x -> x.downloaded(MAX));
        refused("Promise 15", "if there is no session", STATE, NO_SESSION,
            x -> x.downloaded(0), x -> x.downloaded(1));
        refused("Promise 16", "if track is not 0 or 1, or segment is negative", INDEX, ALWAYS,
            x -> x.rungOf(-1, 0), x -> x.rungOf(2, 0), x -> x.rungOf(MIN, 0), x -> x.rungOf(MAX, 0),
            x -> x.rungOf(0, -1), x -> x.rungOf(1, -1), x -> x.rungOf(0, MIN), x -> x.rungOf(2, -1));
        refused("Promise 16", "if there is no session", STATE, NO_SESSION,
            x -> x.rungOf(0, 0), x -> x.rungOf(1, 0), x -> x.rungOf(0, MAX));
        refused("Promise 17", "if what is out of its range", INDEX, ALWAYS, x -> x.download(-1),
            x -> x.download(5), x -> x.download(MIN), x -> x.download(MAX));
        refused("Promise 17", "if there is no session", STATE, NO_SESSION, x -> x.download(0),
            x -> x.download(1), x -> x.download(2), x -> x.download(3), x -> x.download(4));
        refused("Promise 18", "if there is no session", STATE, NO_SESSION, x -> x.received());
        refused("Promise 19", "if there is no session", STATE, NO_SESSION, x -> x.estimate());
        refused("Promise 20", "if there is no session", STATE, NO_SESSION, x -> x.nextRung());
        refused("Promise 21", "if there is no session", STATE, NO_SESSION, x -> x.latency());
    }

    private static void accounts() {
        refused("Promise 22", "if what is out of its range", INDEX, ALWAYS, x -> x.spent(-1),
            x -> x.spent(3), x -> x.spent(MIN), x -> x.spent(MAX));
        refused("Promise 22", "if there is no session", STATE, NO_SESSION, x -> x.spent(0),
            x -> x.spent(1), x -> x.spent(2));
        refused("Promise 23", "if what is out of its range", INDEX, ALWAYS, x -> x.count(-1),
            x -> x.count(4), x -> x.count(MIN), x -> x.count(MAX));
        refused("Promise 23", "if there is no session", STATE, NO_SESSION, x -> x.count(0),
            x -> x.count(1), x -> x.count(2), x -> x.count(3));
        refused("Promise 24", "if there is no session", STATE, NO_SESSION, x -> x.wasted());
        refused("Promise 25", "if there is no session", STATE, NO_SESSION, x -> x.quality());
        refused("Promise 26", "if there is no session", STATE, NO_SESSION, x -> x.score());
        refused("Promise 27", "if k is negative", INDEX, ALWAYS,
            x -> x.timeLine(-1), x -> x.timeLine(MIN));
        refused("Promise 27", "if there is no session", STATE, NO_SESSION,
            x -> x.timeLine(0), x -> x.timeLine(300), x -> x.timeLine(MAX));
    }

    private static void forecasts() {
        refused("Promise 28", "if milliseconds is out of its range", ARGUMENT, ALWAYS,
            x -> x.forecast(-1, 0), x -> x.forecast(20001, 0), x -> x.forecast(MIN, 0),
            x -> x.forecast(MAX, 0), x -> x.forecast(-1, 4), x -> x.forecast(20001, -1));
        refused("Promise 28", "if what is out of its range", INDEX, ALWAYS,
            x -> x.forecast(0, -1), x -> x.forecast(0, 4), x -> x.forecast(20000, 4),
            x -> x.forecast(0, MIN), x -> x.forecast(0, MAX));
        refused("Promise 28", "if there is no session", STATE, NO_SESSION,
            x -> x.forecast(0, 0), x -> x.forecast(20000, 3));
        refused("Promise 29", "if an argument is out of its range", ARGUMENT, ALWAYS,
            x -> x.trialScore(-1, 0), x -> x.trialScore(3, 0), x -> x.trialScore(MIN, 0),
            x -> x.trialScore(MAX, 0), x -> x.trialScore(0, -1), x -> x.trialScore(2, 20001),
            x -> x.trialScore(0, MIN), x -> x.trialScore(0, MAX), x -> x.trialScore(3, 20001));
        refused("Promise 29", "if there are no rungs of video, or no phases", STATE, NOT_PLAYABLE,
            x -> x.trialScore(0, 0), x -> x.trialScore(1, 1), x -> x.trialScore(2, 20000));
        refused("Promise 30", "if milliseconds is out of its range", ARGUMENT, ALWAYS,
            x -> x.bestMode(-1), x -> x.bestMode(20001), x -> x.bestMode(MIN), x -> x.bestMode(MAX));
        refused("Promise 30", "if there are no rungs of video, or no phases", STATE, NOT_PLAYABLE,
            x -> x.bestMode(0), x -> x.bestMode(20000));
        refused("Promise 31", "if milliseconds is out of its range", ARGUMENT, ALWAYS,
            x -> x.leastStart(-1), x -> x.leastStart(20001),
            x -> x.leastStart(MIN), x -> x.leastStart(MAX));
        refused("Promise 31", "if there are no rungs of video, or no phases", STATE, NOT_PLAYABLE,
            x -> x.leastStart(0), x -> x.leastStart(20000));
    }

    /** Each of these calls is wrong in every way that the document lists for it. */
    private static void severalApply() {
        String words = "If several exceptions apply to a call, the one that is listed first is thrown.";
        refused("Exceptions", words, INDEX, IN_SESSION,
            x -> x.setParameter(15, -1), x -> x.setParameter(-1, 70000),
            x -> x.addRung(2, 0), x -> x.addRung(-1, 50001));
        refused("Exceptions", words, INDEX, only(Situation.FULL),
            x -> x.addRung(2, 0), x -> x.addRung(-1, 50001));
        refused("Exceptions", words, ARGUMENT, IN_SESSION,
            x -> x.setParameter(0, 99), x -> x.addRung(0, 0), x -> x.addRung(1, 20),
            x -> x.addPhase(0, -1));
        refused("Exceptions", words, ARGUMENT, only(Situation.FULL),
            x -> x.addRung(0, 600), x -> x.addRung(1, 50001), x -> x.addPhase(100001, 100001));
        refused("Exceptions", words, INDEX, NO_SESSION,
            x -> x.buffer(2), x -> x.downloaded(2), x -> x.rungOf(2, -1), x -> x.download(5),
            x -> x.spent(3), x -> x.count(4), x -> x.timeLine(-1), x -> x.forecast(0, 4));
        refused("Exceptions", words, ARGUMENT, NO_SESSION,
            x -> x.run(20001), x -> x.forecast(20001, 4));
        refused("Exceptions", words, ARGUMENT, NOT_PLAYABLE,
            x -> x.trialScore(3, 20001), x -> x.bestMode(-1), x -> x.leastStart(20001));
    }

    private static Situation[] only(Situation situation) {
        return new Situation[] {situation};
    }
}
