/** What a player can be in when a call comes; each can be made as often as a test needs it. */
enum Situation {
    NEW, NO_VIDEO, NO_PHASES, READY, FULL, JUST_STARTED, STARTING, PLAYING, STALLED, ENDED, STOPPED;

    static final Situation[] WITH_SESSION = {JUST_STARTED, STARTING, PLAYING, STALLED, ENDED};
    static final Situation[] WITHOUT_SESSION = {NEW, NO_VIDEO, NO_PHASES, READY, FULL, STOPPED};
    static final Situation[] NOT_PLAYABLE = {NEW, NO_VIDEO, NO_PHASES};
    static final Situation[] WITH_RUNGS = {READY, STARTING, PLAYING, STALLED, ENDED, STOPPED};

    /** How long the session has run; RefusalTest looks whether it is in the state then. */
    private static final int UNTIL_STARTING = 120;
    private static final int UNTIL_PLAYING = 520;
    private static final int UNTIL_STALLED = 640;
    private static final int UNTIL_ENDED = 3300;

    StreamPlayer make() {
        switch (this) {
            case NEW: return new StreamPlayer();
            case NO_VIDEO: return withoutVideo();
            case NO_PHASES: return withoutPhases();
            case READY: return ready();
            case FULL: return full();
            case JUST_STARTED: return runFor(0);
            case STARTING: return runFor(UNTIL_STARTING);
            case PLAYING: return runFor(UNTIL_PLAYING);
            case STALLED: return runFor(UNTIL_STALLED);
            case ENDED: return runFor(UNTIL_ENDED);
            default: return stopped();
        }
    }

    private static StreamPlayer withoutVideo() {
        StreamPlayer x = new StreamPlayer();
        Players.addAudio(x, 20, 40);
        x.addPhase(100, 300);
        return x;
    }

    private static StreamPlayer withoutPhases() {
        StreamPlayer x = new StreamPlayer();
        Players.addVideo(x, 100, 200);
        Players.addAudio(x, 20);
        return x;
    }

    /** Two rungs of video, one of audio and two phases, so that nothing is empty and nothing full. */
    private static StreamPlayer ready() {
        StreamPlayer x = withoutPhases();
        Players.set(x, Players.LENGTH, 100, Players.SEGMENTS, 7, Players.LATENCY, 20);
        Players.set(x, Players.START, 200, Players.RESUME, 100, Players.LOW, 0, Players.HIGH, 150);
        Players.set(x, Players.SAFETY, 100, Players.GRACE, 60, Players.MODE, 1);
        x.addPhase(420, 300);
        x.addPhase(300, 20);
        return x;
    }

    private static StreamPlayer full() {
        StreamPlayer x = new StreamPlayer();
        Players.addVideo(x, 100, 200, 300, 400, 500, 600);
        Players.addAudio(x, 10, 20, 30);
        for (int i = 1; i <= 20; i++) {
            x.addPhase(10 * i, 5 * i);
        }
        return x;
    }

    private static StreamPlayer runFor(int milliseconds) {
        StreamPlayer x = ready();
        x.start();
        x.run(milliseconds);
        return x;
    }

    private static StreamPlayer stopped() {
        StreamPlayer x = runFor(UNTIL_PLAYING);
        x.stop();
        return x;
    }
}
