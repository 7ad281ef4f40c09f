/** All that can be seen of a player from outside, as a text; it leaves the player as it was. */
final class Snapshot {
    /** A call that is asked of a player. */
    interface Ask {
        long of(StreamPlayer player);
    }

    private static final int PARAMETERS = 15;
    private static final int SEGMENTS_LOOKED_AT = 8;
    private static final int SIGNS_LOOKED_AT = 5;
    private static final int HORIZON = 300;
    private static final int[] TIMES = {0, 99, 420, 719, 720, 2000, Integer.MAX_VALUE};

    private final StreamPlayer player;
    private final StringBuilder text = new StringBuilder();

    private Snapshot(StreamPlayer player) {
        this.player = player;
    }

    static String of(StreamPlayer player) {
        Snapshot shot = new Snapshot(player);
        shot.settings();
        shot.session();
        shot.downloads();
        shot.accounts();
        shot.forecasts();
        shot.say("fingerprint", player::fingerprint);
        return shot.text.toString();
    }

    /** Two players must be the same now, and still so when both have gone on. */
    static void compare(String what, StreamPlayer x, StreamPlayer twin) {
        Check.same(what + ", behind it", of(x), of(twin));
        Check.same(what + ", later: start", x::start, twin::start);
        Check.same(what + ", later: run", () -> x.run(400), () -> twin.run(400));
        Check.same(what + ", later", of(x), of(twin));
    }

    private void say(String name, Check.Call call) {
        text.append(name).append(' ').append(Check.said(call)).append('\n');
    }

    private void settings() {
        if (player.state() == 0) {
            for (int p = 0; p < PARAMETERS; p++) {
                int value = player.setParameter(p, allowedValueOf(p));
                player.setParameter(p, value);
                text.append("parameter ").append(p).append(' ').append(value).append('\n');
            }
        }
        for (int track = 0; track < 2; track++) {
            int t = track;
            for (int rung = 0; rung < 6; rung++) {
                int r = rung;
                say("size " + t + " " + r, () -> player.size(t, r, 0));
            }
            say("last size " + t, () -> player.size(t, 0, 29));
        }
        for (int time : TIMES) {
            say("bandwidth " + time, () -> player.bandwidth(time));
        }
    }

    private static int allowedValueOf(int parameter) {
        switch (parameter) {
            case 0: return 100;
            case 7: return 1000;
            case 9: return 10;
            default: return 1;
        }
    }

    private void session() {
        say("state", player::state);
        say("time", player::time);
        say("position", player::position);
        say("estimate", player::estimate);
        say("nextRung", player::nextRung);
        say("latency", player::latency);
    }

    private void downloads() {
        for (int track = 0; track < 2; track++) {
            int t = track;
            say("buffer " + t, () -> player.buffer(t));
            say("downloaded " + t, () -> player.downloaded(t));
            for (int segment = 0; segment < SEGMENTS_LOOKED_AT; segment++) {
                int s = segment;
                say("rungOf " + t + " " + s, () -> player.rungOf(t, s));
            }
        }
        for (int what = 0; what < 5; what++) {
            int w = what;
            say("download " + w, () -> player.download(w));
        }
        say("received", player::received);
    }

    private void accounts() {
        for (int what = 0; what < 4; what++) {
            int w = what;
            say("spent " + w, () -> player.spent(w));
            say("count " + w, () -> player.count(w));
        }
        say("wasted", player::wasted);
        say("quality", player::quality);
        say("score", player::score);
        for (int k = 0; k < SIGNS_LOOKED_AT; k++) {
            int sign = k;
            say("timeLine " + k, () -> player.timeLine(sign));
        }
    }

    private void forecasts() {
        for (int what = 0; what < 4; what++) {
            int w = what;
            say("forecast " + w, () -> player.forecast(HORIZON, w));
        }
        for (int mode = 0; mode < 3; mode++) {
            int m = mode;
            say("trialScore " + m, () -> player.trialScore(m, HORIZON));
        }
        say("bestMode", () -> player.bestMode(HORIZON));
        say("leastStart", () -> player.leastStart(HORIZON));
    }
}
