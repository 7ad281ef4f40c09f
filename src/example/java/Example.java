/** Plays a short film over a network with gaps, and prints what a player tells of it. */
public final class Example {
    private static final int VIDEO = 0;
    private static final int AUDIO = 1;

    private Example() {
    }

    public static void main(String[] args) {
        StreamPlayer player = new StreamPlayer();
        player.addRung(VIDEO, 100);      // bits per millisecond, the lowest rung first
        player.addRung(VIDEO, 300);
        player.addRung(VIDEO, 600);
        player.addRung(AUDIO, 20);
        player.addPhase(4000, 700);      // the network: 4 s with 700 bits per millisecond,
        player.addPhase(4000, 60);       // then 4 s with 60, and so on from the beginning
        player.setParameter(0, 500);     // segments of 500 ms,
        player.setParameter(1, 24);      // 24 of them
        player.setParameter(3, 500);     // playing starts with one segment,
        player.setParameter(4, 500);     // and goes on with one after a stall
        player.setParameter(5, 1000);    // the low and the high buffer
        player.setParameter(6, 3000);

        // Trials before the session change nothing.
        print("score by throughput", player.trialScore(0, 20000));
        print("score by buffer", player.trialScore(1, 20000));
        int best = player.bestMode(20000);
        print("best mode", best);
        player.setParameter(12, best);
        print("segments to start with", player.leastStart(20000));

        player.start();
        player.run(6000);
        print("state", player.state());
        print("position", player.position());
        print("buffer of video", player.buffer(VIDEO));
        print("next rung", player.nextRung());
        print("stall time 5 s later", player.forecast(5000, 2));

        // A call that throws changes nothing.
        try {
            player.setParameter(0, 1000);
        } catch (IllegalStateException e) {
            print("refused at the time", player.time());
        }

        player.run(12000);
        print("state", player.state());
        print("stalls", player.count(0));
        print("stall time", player.spent(1));
        print("score", player.score());
        System.out.println("time line: " + timeLine(player));
        print("stopped at the time", player.stop());
    }

    private static String timeLine(StreamPlayer player) {
        StringBuilder line = new StringBuilder();
        for (int k = 0; player.timeLine(k) >= 0; k++) {
            line.append((char) player.timeLine(k));
        }
        return line.toString();
    }

    private static void print(String what, long answer) {
        System.out.println(what + ": " + answer);
    }
}
