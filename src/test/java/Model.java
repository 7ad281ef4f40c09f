import java.math.BigInteger;
import java.util.ArrayList;
import java.util.List;

/**
 * The rules of the document once more, apart from the class under test: slow and close to the
 * document's words. A forecast plays the whole session again, so that nothing is copied.
 */
final class Model {
    private static final int[][] RANGES = {
        {100, 10000, 2000}, {1, 200, 30}, {0, 2000, 50}, {0, 60000, 2000}, {0, 60000, 2000},
        {0, 60000, 4000}, {0, 60000, 10000}, {1000, 60000, 20000}, {1, 10, 3}, {10, 100, 80},
        {0, 20000, 0}, {0, 5000, 500}, {0, 2, 2}, {0, 60000, 0}, {0, 60000, 60000}
    };

    private final int[] p = new int[15];
    private final List<List<Integer>> ladders = List.of(new ArrayList<>(), new ArrayList<>());
    private final List<int[]> plan = new ArrayList<>();
    private Play play = null;

    Model() {
        for (int i = 0; i < 15; i++) {
            p[i] = RANGES[i][2];
        }
    }

    int setParameter(int parameter, int value) {
        index(parameter >= 0 && parameter <= 14);
        argument(value >= RANGES[parameter][0] && value <= RANGES[parameter][1]);
        possible(play == null);
        int old = p[parameter];
        p[parameter] = value;
        return old;
    }

    int addRung(int track, int rate) {
        index(track == 0 || track == 1);
        List<Integer> ladder = ladders.get(track);
        argument(rate >= 1 && rate <= 50000);
        argument(ladder.isEmpty() || rate > ladder.get(ladder.size() - 1));
        possible(play == null && ladder.size() < (track == 0 ? 6 : 3));
        ladder.add(rate);
        return ladder.size() - 1;
    }

    int addPhase(int length, int rate) {
        argument(length >= 1 && length <= 100000 && rate >= 0 && rate <= 100000);
        possible(play == null && plan.size() < 20);
        plan.add(new int[] {length, rate});
        return plan.size();
    }

    int clear() {
        possible(play == null);
        int phases = plan.size();
        plan.clear();
        ladders.get(0).clear();
        ladders.get(1).clear();
        return phases;
    }

    int bandwidth(int time) {
        argument(time >= 0);
        if (plan.isEmpty()) {
            return 0;
        }
        long all = 0;
        for (int[] phase : plan) {
            all += phase[0];
        }
        long begin = time / all * all;
        for (int[] phase : plan) {
            begin += phase[0];
            if (time < begin) {
                return phase[1];
            }
        }
        throw new AssertionError("no phase at " + time);
    }

    long size(int track, int rung, int segment) {
        index(track == 0 || track == 1);
        index(rung >= 0 && rung < ladders.get(track).size());
        index(segment >= 0 && segment < p[1]);
        long whole = (long) ladders.get(track).get(rung) * p[0]
            * (85 + (7 * segment + 13 * rung + 3 * track) % 31);
        return whole < 100 ? 1 : whole / 100;
    }

    int start() {
        possible(play == null && !ladders.get(0).isEmpty() && !plan.isEmpty());
        play = new Play(p[12], p[3]);
        return p[1];
    }

    int stop() {
        int time = session().time;
        play = null;
        return time;
    }

    int run(int milliseconds) {
        argument(milliseconds >= 0 && milliseconds <= 20000);
        possible(session().time + milliseconds <= 10000000);
        play.pass(milliseconds);
        return play.position;
    }

    int state() {
        return play == null ? 0 : play.state;
    }

    int time() {
        return session().time;
    }

    int position() {
        return session().position;
    }

    int buffer(int track) {
        index(track == 0 || track == 1);
        return session().buffer(track);
    }

    int downloaded(int track) {
        index(track == 0 || track == 1);
        return session().done.get(track).size();
    }

    int rungOf(int track, int segment) {
        index(track == 0 || track == 1);
        index(segment >= 0);
        List<Integer> done = session().done.get(track);
        return segment < done.size() ? done.get(segment) : -1;
    }

    int download(int what) {
        index(what >= 0 && what <= 4);
        int[] now = session().now;
        return now == null ? -1 : now[what];
    }

    long received() {
        return session().now == null ? -1 : play.got;
    }

    int estimate() {
        return session().estimate();
    }

    int nextRung() {
        return session().takenForVideo();
    }

    int latency() {
        return session().time >= 0 && p[13] == 0 ? -1 : play.time + p[13] - play.position;
    }

    int spent(int what) {
        index(what >= 0 && what <= 2);
        return session().spent[what];
    }

    int count(int what) {
        index(what >= 0 && what <= 3);
        return what < 3 ? session().events[what] : session().switches();
    }

    long wasted() {
        return session().wasted;
    }

    long quality() {
        return session().quality;
    }

    long score() {
        return session().score();
    }

    int timeLine(int k) {
        index(k >= 0);
        StringBuilder line = session().line;
        return k < line.length() ? line.charAt(k) : -1;
    }

    int forecast(int milliseconds, int what) {
        argument(milliseconds >= 0 && milliseconds <= 20000);
        index(what >= 0 && what <= 3);
        Play later = new Play(p[12], p[3]);
        later.pass(session().time + milliseconds);
        int[] answers = {later.state, later.position, later.spent[1], later.buffer(0)};
        return answers[what];
    }

    long trialScore(int mode, int milliseconds) {
        argument(mode >= 0 && mode <= 2 && milliseconds >= 0 && milliseconds <= 20000);
        possible(!ladders.get(0).isEmpty() && !plan.isEmpty());
        Play trial = new Play(mode, p[3]);
        trial.pass(milliseconds);
        return trial.score();
    }

    int bestMode(int milliseconds) {
        long zero = trialScore(0, milliseconds);
        long one = trialScore(1, milliseconds);
        long two = trialScore(2, milliseconds);
        if (zero >= one && zero >= two) {
            return 0;
        }
        return one >= two ? 1 : 2;
    }

    int leastStart(int milliseconds) {
        argument(milliseconds >= 0 && milliseconds <= 20000);
        possible(!ladders.get(0).isEmpty() && !plan.isEmpty());
        for (int k = 0; k <= 10; k++) {
            Play trial = new Play(p[12], k * p[0] > 60000 ? 60000 : k * p[0]);
            trial.pass(milliseconds);
            if (trial.events[0] == 0) {
                return k;
            }
        }
        return -1;
    }

    long fingerprint() {
        List<Long> numbers = new ArrayList<>();
        numbers.add((long) state());
        if (play != null) {
            numbers.add((long) time());
            numbers.add((long) position());
            numbers.add((long) buffer(0));
            numbers.add((long) buffer(1));
            for (int i = 0; i <= 4; i++) {
                numbers.add((long) download(i));
            }
            numbers.add(received());
            numbers.add((long) estimate());
            for (int i = 0; i <= 2; i++) {
                numbers.add((long) spent(i));
            }
            for (int i = 0; i <= 3; i++) {
                numbers.add((long) count(i));
            }
            numbers.add(wasted());
            numbers.add(quality());
        }
        BigInteger print = BigInteger.valueOf(59);
        for (long number : numbers) {
            print = print.multiply(BigInteger.valueOf(31)).add(BigInteger.valueOf(number));
        }
        return print.longValue();
    }

    private Play session() {
        possible(play != null);
        return play;
    }

    private static void index(boolean fits) {
        if (!fits) {
            throw new IndexOutOfBoundsException();
        }
    }

    private static void argument(boolean fits) {
        if (!fits) {
            throw new IllegalArgumentException();
        }
    }

    private static void possible(boolean fits) {
        if (!fits) {
            throw new IllegalStateException();
        }
    }

    /** One session. */
    private final class Play {
        final int mode;
        final int threshold;
        final List<List<Integer>> done = List.of(new ArrayList<>(), new ArrayList<>());
        final List<long[]> samples = new ArrayList<>();
        /** The rungs of all downloads of video that began, and when. */
        final List<int[]> begun = new ArrayList<>();
        final StringBuilder line = new StringBuilder();
        final int[] spent = new int[3];
        final int[] events = new int[3];
        /** Track, segment, rung, waiting time and duration; null if no download is going on. */
        int[] now = null;
        long got = 0;
        long wasted = 0;
        long quality = 0;
        int state = 1;
        int time = 0;
        int position = 0;

        Play(int mode, int threshold) {
            this.mode = mode;
            this.threshold = threshold;
        }

        void pass(int milliseconds) {
            for (int i = 0; i < milliseconds; i++) {
                second();
                step1();
                step2();
                step3();
                step4();
                step5();
            }
        }

        private void second() {
            if (time % 1000 != 0 || line.length() == 300) {
                return;
            }
            String signs = "?s?-e";
            line.append(state == 2
                ? (char) (48 + done.get(0).get((position - 1) / p[0]))
                : signs.charAt(state));
        }

        private void step1() {
            if (now != null) {
                return;
            }
            int track = -1;
            for (int t = 1; t >= 0; t--) {
                int next = done.get(t).size();
                boolean available = p[13] == 0 || time >= (next + 1) * p[0] - p[13];
                if (ladders.get(t).size() > 0 && next < p[1] && available
                        && buffer(t) + p[0] <= p[7]
                        && (track < 0 || next <= done.get(track).size())) {
                    track = t;
                }
            }
            if (track >= 0) {
                begin(track, done.get(track).size(),
                    track == 0 ? takenForVideo() : throughputRung(1, 500));
            }
        }

        private void begin(int track, int segment, int rung) {
            if (track == 0) {
                begun.add(new int[] {rung, time});
            }
            now = new int[] {track, segment, rung, p[2], 0};
            got = 0;
        }

        private void step2() {
            if (now == null) {
                return;
            }
            now[4]++;
            if (now[3] != 0) {
                now[3]--;
                return;
            }
            long all = size(now[0], now[2], now[1]);
            got = Math.min(all, got + bandwidth(time));
            if (got == all) {
                events[2]++;
                done.get(now[0]).add(now[2]);
                samples.add(new long[] {all, now[4]});
                now = null;
            }
        }

        private void step3() {
            if (now == null || now[0] != 0 || now[2] == 0 || got == 0 || now[4] < p[11] + p[2]) {
                return;
            }
            BigInteger left = timeFor(size(0, now[2], now[1]) - got);
            if (left.compareTo(BigInteger.valueOf(buffer(0))) <= 0) {
                return;
            }
            int best = -1;
            for (int r = 0; r < now[2]; r++) {
                if (timeFor(size(0, r, now[1])).compareTo(left) < 0) {
                    best = r;
                }
            }
            if (best >= 0) {
                events[1]++;
                wasted += got;
                begin(0, now[1], best);
            }
        }

        private BigInteger timeFor(long bits) {
            BigInteger[] parts = BigInteger.valueOf(bits).multiply(BigInteger.valueOf(now[4]))
                .divideAndRemainder(BigInteger.valueOf(got));
            return parts[1].signum() == 0 ? parts[0] : parts[0].add(BigInteger.ONE);
        }

        private void step4() {
            int buffer = buffer(0);
            boolean all = done.get(0).size() == p[1];
            if (!ladders.get(1).isEmpty()) {
                buffer = Math.min(buffer, buffer(1));
                all = all && done.get(1).size() == p[1];
            }
            if (state == 1 && (buffer >= threshold || all)
                    || state == 3 && (buffer >= p[4] || all)) {
                state = 2;
            }
            if (state != 2) {
                return;
            }
            if (buffer == 0) {
                if (position == p[1] * p[0]) {
                    state = 4;
                } else {
                    state = 3;
                    events[0]++;
                }
                return;
            }
            quality += ladders.get(0).get(done.get(0).get(position / p[0]));
            boolean catchingUp = p[13] != 0 && time + p[13] - position > p[14]
                && buffer >= p[5] && time % 10 == 0;
            position++;
            if (buffer >= 2 && catchingUp) {
                position++;
            }
        }

        private void step5() {
            int[] accountOfState = {-1, 0, 2, 1, -1};
            if (accountOfState[state] >= 0) {
                spent[accountOfState[state]]++;
            }
            time++;
        }

        int buffer(int track) {
            return ladders.get(track).isEmpty() ? 0 : done.get(track).size() * p[0] - position;
        }

        int estimate() {
            long bits = 0;
            long durations = 0;
            for (int i = samples.size() - 1; i >= 0 && i >= samples.size() - p[8]; i--) {
                bits += samples.get(i)[0];
                durations += samples.get(i)[1];
            }
            return durations == 0 ? 0 : (int) (bits / durations);
        }

        private int throughputRung(int track, int factor) {
            int best = 0;
            for (int r = 0; r < ladders.get(track).size(); r++) {
                if ((long) ladders.get(track).get(r) * factor <= (long) estimate() * p[9]) {
                    best = r;
                }
            }
            return best;
        }

        private int bufferRung() {
            int greatest = ladders.get(0).size() - 1;
            if (buffer(0) < p[5]) {
                return 0;
            }
            if (buffer(0) >= p[6]) {
                return greatest;
            }
            return greatest * (buffer(0) - p[5]) / (p[6] - p[5]);
        }

        int takenForVideo() {
            if (begun.isEmpty()) {
                return 0;
            }
            int chosen = mode == 0 ? throughputRung(0, 100)
                : mode == 1 ? bufferRung()
                : Math.min(throughputRung(0, 100), bufferRung());
            int c = begun.get(begun.size() - 1)[0];
            if (chosen <= c) {
                return chosen;
            }
            int latestChange = 0;
            for (int i = 1; i < begun.size(); i++) {
                if (begun.get(i)[0] != begun.get(i - 1)[0]) {
                    latestChange = begun.get(i)[1];
                }
            }
            return time - latestChange >= p[10] ? c + 1 : c;
        }

        int switches() {
            int pairs = 0;
            for (int i = 1; i < done.get(0).size(); i++) {
                pairs += done.get(0).get(i).equals(done.get(0).get(i - 1)) ? 0 : 1;
            }
            return pairs;
        }

        long score() {
            List<Integer> video = ladders.get(0);
            return quality - 2L * video.get(video.size() - 1) * spent[1];
        }
    }
}
