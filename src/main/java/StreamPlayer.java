/**
 * A player for adaptive streams, simulated millisecond by millisecond. The rules are those of the
 * document of this class; the numbers of the steps in the comments are the document's.
 */
public final class StreamPlayer {
    private static final int VIDEO = 0;
    private static final int AUDIO = 1;
    private static final int TRACKS = 2;

    private static final int NO_SESSION = 0;
    private static final int STARTING = 1;
    private static final int PLAYING = 2;
    private static final int STALLED = 3;
    private static final int ENDED = 4;

    private static final int SEGMENT_LENGTH = 0;
    private static final int SEGMENTS = 1;
    private static final int NETWORK_LATENCY = 2;
    private static final int START_THRESHOLD = 3;
    private static final int RESUME_THRESHOLD = 4;
    private static final int LOW_BUFFER = 5;
    private static final int HIGH_BUFFER = 6;
    private static final int CAP = 7;
    private static final int WINDOW = 8;
    private static final int SAFETY = 9;
    private static final int HOLD = 10;
    private static final int GRACE = 11;
    private static final int MODE = 12;
    private static final int LIVE_DELAY = 13;
    private static final int TARGET_LATENCY = 14;

    private static final int BY_THROUGHPUT = 0;
    private static final int BY_BUFFER = 1;
    private static final int MODES = 3;

    private static final int[] LEAST_VALUES = {
        100, 1, 0, 0, 0, 0, 0, 1000, 1, 10, 0, 0, 0, 0, 0
    };
    private static final int[] GREATEST_VALUES = {
        10000, 200, 2000, 60000, 60000, 60000, 60000, 60000, 10, 100, 20000, 5000, 2, 60000, 60000
    };
    private static final int[] FIRST_VALUES = {
        2000, 30, 50, 2000, 2000, 4000, 10000, 20000, 3, 80, 0, 500, 2, 0, 60000
    };

    private static final int MOST_VIDEO_RUNGS = 6;
    private static final int MOST_AUDIO_RUNGS = 3;
    private static final int GREATEST_RUNG_RATE = 50000;
    private static final int MOST_PHASES = 20;
    private static final int GREATEST_PHASE_LENGTH = 100000;
    private static final int GREATEST_PHASE_RATE = 100000;
    private static final int MOST_SEGMENTS = 200;
    private static final int MOST_SAMPLES = 10;
    private static final int MOST_SIGNS = 300;
    private static final int MOST_MILLISECONDS = 20000;
    private static final int LAST_TIME = 10000000;
    private static final int GREATEST_TRIED_MULTIPLE = 10;
    private static final int GREATEST_THRESHOLD = 60000;

    private static final int DOWNLOAD_FACTS = 5;
    private static final int SPENT_TIMES = 3;
    private static final int COUNTS = 4;
    private static final int FORECASTS = 4;
    private static final int STALL_TIME = 1;

    private final Stream stream;
    private final Session session;
    // Forecasts and trials run in this one, so that they change nothing and make no new objects.
    private final Session scratch;

    /** Creates a player with empty ladders and an empty plan, without a session. */
    public StreamPlayer() {
        Stream made = new Stream();
        stream = made;
        session = new Session(made);
        scratch = new Session(made);
    }

    // ---- settings

    /** Sets a parameter and returns its previous value. */
    public int setParameter(int parameter, int value)
            throws IndexOutOfBoundsException, IllegalArgumentException, IllegalStateException {
        requireIndex(parameter, FIRST_VALUES.length);
        requireArgument(Stream.allows(parameter, value));
        requireNoSession();
        return stream.replaceValue(parameter, value);
    }

    /** Adds a rung to the top of a ladder and returns its number. */
    public int addRung(int track, int rate)
            throws IndexOutOfBoundsException, IllegalArgumentException, IllegalStateException {
        requireIndex(track, TRACKS);
        Ladder ladder = stream.ladderOf(track);
        requireArgument(rate <= GREATEST_RUNG_RATE && rate > ladder.topRate());
        requireNoSession();
        requireState(!ladder.isFull());
        return ladder.addTop(rate);
    }

    /** Adds a phase to the plan of the network and returns the number of phases. */
    public int addPhase(int length, int rate)
            throws IllegalArgumentException, IllegalStateException {
        requireArgument(length >= 1 && length <= GREATEST_PHASE_LENGTH);
        requireArgument(rate >= 0 && rate <= GREATEST_PHASE_RATE);
        requireNoSession();
        requireState(!stream.plan.isFull());
        return stream.plan.append(length, rate);
    }

    /** Empties both ladders and the plan; returns the number of phases that there were. */
    public int clear() throws IllegalStateException {
        requireNoSession();
        int phases = stream.plan.phases;
        stream.empty();
        return phases;
    }

    /** Returns the rate of the network in the millisecond that begins at a time. */
    public int bandwidth(int time) throws IllegalArgumentException {
        requireArgument(time >= 0);
        return stream.plan.rateAt(time);
    }

    /** Returns the number of bits of a segment. */
    public long size(int track, int rung, int segment) throws IndexOutOfBoundsException {
        requireIndex(track, TRACKS);
        requireIndex(rung, stream.ladderOf(track).rungs);
        requireIndex(segment, stream.valueOf(SEGMENTS));
        return stream.bitsOf(track, rung, segment);
    }

    // ---- session

    /** Starts a session and returns the number of segments. */
    public int start() throws IllegalStateException {
        requireNoSession();
        requireState(stream.isPlayable());
        session.begin(stream.valueOf(MODE), stream.valueOf(START_THRESHOLD));
        return stream.valueOf(SEGMENTS);
    }

    /** Ends the session and returns its time. */
    public int stop() throws IllegalStateException {
        requireSession();
        session.state = NO_SESSION;
        return session.time;
    }

    /** Lets time pass and returns the position then. */
    public int run(int milliseconds) throws IllegalArgumentException, IllegalStateException {
        requireMilliseconds(milliseconds);
        requireSession();
        requireState(session.time <= LAST_TIME - milliseconds);
        session.advance(milliseconds);
        return session.position;
    }

    /** Returns the state: 0 no session, 1 starting, 2 playing, 3 stalled, 4 ended. */
    public int state() {
        return session.state;
    }

    /** Returns the time of the session. */
    public int time() throws IllegalStateException {
        requireSession();
        return session.time;
    }

    /** Returns the position in the stream. */
    public int position() throws IllegalStateException {
        requireSession();
        return session.position;
    }

    /** Returns the buffer of a track in milliseconds. */
    public int buffer(int track) throws IndexOutOfBoundsException, IllegalStateException {
        requireIndex(track, TRACKS);
        requireSession();
        return session.bufferOf(track);
    }

    /** Counts the downloaded segments of a track. */
    public int downloaded(int track) throws IndexOutOfBoundsException, IllegalStateException {
        requireIndex(track, TRACKS);
        requireSession();
        return session.shelfOf(track).segments;
    }

    /** Returns the rung of a downloaded segment, -1 if it is not downloaded. */
    public int rungOf(int track, int segment)
            throws IndexOutOfBoundsException, IllegalStateException {
        requireIndex(track, TRACKS);
        requireNotNegative(segment);
        requireSession();
        return session.shelfOf(track).rungAt(segment);
    }

    /** Returns a fact about the download that is going on, -1 if there is none. */
    public int download(int what) throws IndexOutOfBoundsException, IllegalStateException {
        requireIndex(what, DOWNLOAD_FACTS);
        requireSession();
        return session.download.fact(what);
    }

    /** Returns the bits that the download that is going on has received, -1 if there is none. */
    public long received() throws IllegalStateException {
        requireSession();
        return session.download.receivedOrNone();
    }

    /** Returns the estimate of the throughput in bits per millisecond. */
    public int estimate() throws IllegalStateException {
        requireSession();
        return session.throughput();
    }

    /** Returns the rung that would be taken if a download of video began now. */
    public int nextRung() throws IllegalStateException {
        requireSession();
        return session.videoRung();
    }

    /** Returns the latency of a live stream, -1 if the stream is not live. */
    public int latency() throws IllegalStateException {
        requireSession();
        return stream.isLive() ? session.behindLive() : -1;
    }

    // ---- accounts

    /** Returns the start-up time, the stall time or the play time. */
    public int spent(int what) throws IndexOutOfBoundsException, IllegalStateException {
        requireIndex(what, SPENT_TIMES);
        requireSession();
        return session.accounts.timeSpent(what);
    }

    /** Counts stalls, abandoned downloads, finished downloads or switches. */
    public int count(int what) throws IndexOutOfBoundsException, IllegalStateException {
        requireIndex(what, COUNTS);
        requireSession();
        return session.accounts.eventsOf(what);
    }

    /** Returns the wasted bits. */
    public long wasted() throws IllegalStateException {
        requireSession();
        return session.accounts.wasted;
    }

    /** Returns the quality. */
    public long quality() throws IllegalStateException {
        requireSession();
        return session.accounts.quality;
    }

    /** Returns the score. */
    public long score() throws IllegalStateException {
        requireSession();
        return session.points();
    }

    /** Returns the code of a character of the time line, -1 if there are not so many. */
    public int timeLine(int k) throws IndexOutOfBoundsException, IllegalStateException {
        requireNotNegative(k);
        requireSession();
        return session.line.signAt(k);
    }

    // ---- forecasts

    /** Tells the state, the position, the stall time or the buffer of video after some time. */
    public int forecast(int milliseconds, int what)
            throws IllegalArgumentException, IndexOutOfBoundsException, IllegalStateException {
        requireMilliseconds(milliseconds);
        requireIndex(what, FORECASTS);
        requireSession();
        scratch.copyFrom(session);
        scratch.advance(milliseconds);
        switch (what) {
            case 0: return scratch.state;
            case 1: return scratch.position;
            case 2: return scratch.accounts.timeSpent(STALL_TIME);
            default: return scratch.bufferOf(VIDEO);
        }
    }

    /** Tells the score that a new session has with another mode after some time. */
    public long trialScore(int mode, int milliseconds)
            throws IllegalArgumentException, IllegalStateException {
        requireArgument(mode >= 0 && mode < MODES);
        requireMilliseconds(milliseconds);
        requireState(stream.isPlayable());
        return pointsInMode(mode, milliseconds);
    }

    /** Finds the mode with the greatest score, of several the smallest one. */
    public int bestMode(int milliseconds) throws IllegalArgumentException, IllegalStateException {
        requireMilliseconds(milliseconds);
        requireState(stream.isPlayable());
        int best = 0;
        long bestPoints = pointsInMode(best, milliseconds);
        for (int mode = 1; mode < MODES; mode++) {
            long points = pointsInMode(mode, milliseconds);
            if (points > bestPoints) {
                best = mode;
                bestPoints = points;
            }
        }
        return best;
    }

    /** Finds the least start threshold, in segments up to 10, without stalls; -1 if none is. */
    public int leastStart(int milliseconds) throws IllegalArgumentException, IllegalStateException {
        requireMilliseconds(milliseconds);
        requireState(stream.isPlayable());
        for (int k = 0; k <= GREATEST_TRIED_MULTIPLE; k++) {
            int threshold = Math.min(k * stream.valueOf(SEGMENT_LENGTH), GREATEST_THRESHOLD);
            if (playsWithoutStall(threshold, milliseconds)) {
                return k;
            }
        }
        return -1;
    }

    /** Returns a fingerprint of the session. */
    public long fingerprint() {
        long print = mix(59, session.state);
        if (session.state == NO_SESSION) {
            return print;
        }
        print = mix(print, session.time);
        print = mix(print, session.position);
        print = mix(print, session.bufferOf(VIDEO));
        print = mix(print, session.bufferOf(AUDIO));
        for (int what = 0; what < DOWNLOAD_FACTS; what++) {
            print = mix(print, session.download.fact(what));
        }
        print = mix(print, session.download.receivedOrNone());
        print = mix(print, session.throughput());
        for (int what = 0; what < SPENT_TIMES; what++) {
            print = mix(print, session.accounts.timeSpent(what));
        }
        for (int what = 0; what < COUNTS; what++) {
            print = mix(print, session.accounts.eventsOf(what));
        }
        print = mix(print, session.accounts.wasted);
        return mix(print, session.accounts.quality);
    }

    private long pointsInMode(int mode, int milliseconds) {
        scratch.begin(mode, stream.valueOf(START_THRESHOLD));
        scratch.advance(milliseconds);
        return scratch.points();
    }

    private boolean playsWithoutStall(int startThreshold, int milliseconds) {
        scratch.begin(stream.valueOf(MODE), startThreshold);
        // The first stall is answer enough.
        for (int i = 0; i < milliseconds && scratch.accounts.stalls == 0; i++) {
            scratch.advance(1);
        }
        return scratch.accounts.stalls == 0;
    }

    private static long mix(long print, long number) {
        return 31 * print + number;
    }

    private static void requireIndex(int index, int bound) {
        if (index < 0 || index >= bound) {
            throw new IndexOutOfBoundsException("there is no such number");
        }
    }

    private static void requireNotNegative(int index) {
        if (index < 0) {
            throw new IndexOutOfBoundsException("the number is negative");
        }
    }

    private static void requireArgument(boolean allowed) {
        if (!allowed) {
            throw new IllegalArgumentException("an argument is out of its range");
        }
    }

    private static void requireMilliseconds(int milliseconds) {
        requireArgument(milliseconds >= 0 && milliseconds <= MOST_MILLISECONDS);
    }

    private static void requireState(boolean allowed) {
        if (!allowed) {
            throw new IllegalStateException("the call is not possible now");
        }
    }

    private void requireSession() {
        if (session.state == NO_SESSION) {
            throw new IllegalStateException("there is no session");
        }
    }

    private void requireNoSession() {
        if (session.state != NO_SESSION) {
            throw new IllegalStateException("there is a session");
        }
    }

    /** The ladder of a track: its rates from the lowest rung to the highest. */
    private static final class Ladder {
        private final int[] rates = new int[MOST_VIDEO_RUNGS];
        private final int most;
        int rungs;

        Ladder(int most) {
            this.most = most;
        }

        boolean isFull() {
            return rungs >= most || rungs >= rates.length;
        }

        int addTop(int rate) {
            if (rungs >= 0 && rungs < rates.length) {
                rates[rungs] = rate;
                rungs++;
            }
            return rungs - 1;
        }

        int rateOf(int rung) {
            return rung >= 0 && rung < rates.length ? rates[rung] : 0;
        }

        /** Returns the rate of the greatest rung; 0, below every rate, if there is none. */
        int topRate() {
            return rateOf(rungs - 1);
        }
    }

    /** The plan of the network: phases that are repeated without end. */
    private static final class Plan {
        private final int[] lengths = new int[MOST_PHASES];
        private final int[] rates = new int[MOST_PHASES];
        private int total;
        int phases;

        boolean isFull() {
            return phases >= lengths.length || phases >= rates.length;
        }

        int append(int length, int rate) {
            if (phases >= 0 && phases < lengths.length && phases < rates.length) {
                lengths[phases] = length;
                rates[phases] = rate;
                total += length;
                phases++;
            }
            return phases;
        }

        void empty() {
            phases = 0;
            total = 0;
        }

        int rateAt(int time) {
            if (total <= 0) {
                return 0;
            }
            int left = time % total;
            for (int i = 0; i < phases && i < lengths.length && i < rates.length; i++) {
                if (left < lengths[i]) {
                    return rates[i];
                }
                left -= lengths[i];
            }
            return 0;
        }
    }

    /** What is set before a session: the parameters, the ladders and the plan. */
    private static final class Stream {
        private final int[] values = FIRST_VALUES.clone();
        final Ladder video = new Ladder(MOST_VIDEO_RUNGS);
        final Ladder audio = new Ladder(MOST_AUDIO_RUNGS);
        final Plan plan = new Plan();

        static boolean allows(int parameter, int value) {
            return parameter >= 0
                && parameter < LEAST_VALUES.length
                && parameter < GREATEST_VALUES.length
                && value >= LEAST_VALUES[parameter]
                && value <= GREATEST_VALUES[parameter];
        }

        int valueOf(int parameter) {
            return parameter >= 0 && parameter < values.length ? values[parameter] : 0;
        }

        int replaceValue(int parameter, int value) {
            int previous = valueOf(parameter);
            if (parameter >= 0 && parameter < values.length) {
                values[parameter] = value;
            }
            return previous;
        }

        void empty() {
            video.rungs = 0;
            audio.rungs = 0;
            plan.empty();
        }

        Ladder ladderOf(int track) {
            return track == VIDEO ? video : audio;
        }

        boolean hasAudio() {
            return audio.rungs > 0;
        }

        boolean isPlayable() {
            return video.rungs > 0 && plan.phases > 0;
        }

        boolean isLive() {
            return valueOf(LIVE_DELAY) > 0;
        }

        boolean isAvailable(int segment, int time) {
            int delay = valueOf(LIVE_DELAY);
            return delay == 0 || time >= (segment + 1) * valueOf(SEGMENT_LENGTH) - delay;
        }

        int segmentAt(int position) {
            int length = valueOf(SEGMENT_LENGTH);
            return length > 0 ? position / length : 0;
        }

        long bitsOf(int track, int rung, int segment) {
            long percent = 85 + (7 * segment + 13 * rung + 3 * track) % 31;
            long rate = ladderOf(track).rateOf(rung);
            return Math.max(1, rate * valueOf(SEGMENT_LENGTH) * percent / 100);
        }
    }

    /** The download that is going on, if there is one. */
    private static final class Download {
        boolean going;
        int track;
        int segment;
        int rung;
        int waiting;
        int duration;
        long bits;
        long received;

        void copyFrom(Download other) {
            going = other.going;
            track = other.track;
            segment = other.segment;
            rung = other.rung;
            waiting = other.waiting;
            duration = other.duration;
            bits = other.bits;
            received = other.received;
        }

        int fact(int what) {
            if (!going) {
                return -1;
            }
            switch (what) {
                case 0: return track;
                case 1: return segment;
                case 2: return rung;
                case 3: return waiting;
                default: return duration;
            }
        }

        long receivedOrNone() {
            return going ? received : -1;
        }

        boolean isWhole() {
            return received >= bits;
        }

        /** Step 2, up to the question whether it is whole. */
        void receiveAt(int rate) {
            duration++;
            if (waiting > 0) {
                waiting--;
            } else {
                received += Math.min(rate, bits - received);
            }
        }

        /** How long so many bits take at the pace of this download; it has received some. */
        long timeFor(long wanted) {
            if (received <= 0) {
                return 0;
            }
            return (wanted * duration + received - 1) / received;
        }
    }

    /** The downloaded segments of a track. */
    private static final class Shelf {
        private final int[] rungs = new int[MOST_SEGMENTS];
        int segments;

        void empty() {
            segments = 0;
        }

        void copyFrom(Shelf other) {
            System.arraycopy(other.rungs, 0, rungs, 0, MOST_SEGMENTS);
            segments = other.segments;
        }

        void put(int rung) {
            if (segments >= 0 && segments < rungs.length) {
                rungs[segments] = rung;
                segments++;
            }
        }

        int rungAt(int segment) {
            boolean known = segment >= 0 && segment < segments && segment < rungs.length;
            return known ? rungs[segment] : -1;
        }

        /** Whether the last two segments are of different rungs. */
        boolean endsInSwitch() {
            return segments >= 2 && rungAt(segments - 1) != rungAt(segments - 2);
        }
    }

    /** The latest samples, the newest first; no window is longer than what is kept. */
    private static final class Samples {
        private final long[] bits = new long[MOST_SAMPLES];
        private final long[] durations = new long[MOST_SAMPLES];
        private int kept;

        void empty() {
            kept = 0;
        }

        void copyFrom(Samples other) {
            System.arraycopy(other.bits, 0, bits, 0, MOST_SAMPLES);
            System.arraycopy(other.durations, 0, durations, 0, MOST_SAMPLES);
            kept = other.kept;
        }

        void put(long newBits, long newDuration) {
            System.arraycopy(bits, 0, bits, 1, MOST_SAMPLES - 1);
            System.arraycopy(durations, 0, durations, 1, MOST_SAMPLES - 1);
            bits[0] = newBits;
            durations[0] = newDuration;
            kept = Math.min(kept + 1, MOST_SAMPLES);
        }

        int rateOver(int window) {
            long allBits = 0;
            long allTime = 0;
            int used = window < kept ? window : kept;
            for (int i = 0; i < used && i < bits.length && i < durations.length; i++) {
                allBits += bits[i];
                allTime += durations[i];
            }
            return allTime > 0 ? (int) (allBits / allTime) : 0;
        }
    }

    /** The accounts of a session. */
    private static final class Accounts {
        private int startUpTime;
        private int stallTime;
        private int playTime;
        int stalls;
        int abandoned;
        int finished;
        int switches;
        long wasted;
        long quality;

        void empty() {
            startUpTime = 0;
            stallTime = 0;
            playTime = 0;
            stalls = 0;
            abandoned = 0;
            finished = 0;
            switches = 0;
            wasted = 0;
            quality = 0;
        }

        void copyFrom(Accounts other) {
            startUpTime = other.startUpTime;
            stallTime = other.stallTime;
            playTime = other.playTime;
            stalls = other.stalls;
            abandoned = other.abandoned;
            finished = other.finished;
            switches = other.switches;
            wasted = other.wasted;
            quality = other.quality;
        }

        /** Step 5, but for the time of the session. */
        void spendIn(int state) {
            if (state == STARTING) {
                startUpTime++;
            } else if (state == STALLED) {
                stallTime++;
            } else if (state == PLAYING) {
                playTime++;
            }
        }

        int timeSpent(int what) {
            switch (what) {
                case 0: return startUpTime;
                case 1: return stallTime;
                default: return playTime;
            }
        }

        int eventsOf(int what) {
            switch (what) {
                case 0: return stalls;
                case 1: return abandoned;
                case 2: return finished;
                default: return switches;
            }
        }
    }

    /** The time line: its first characters, a character a second. */
    private static final class Line {
        private final char[] signs = new char[MOST_SIGNS];
        private int length;

        void empty() {
            length = 0;
        }

        void copyFrom(Line other) {
            System.arraycopy(other.signs, 0, signs, 0, MOST_SIGNS);
            length = other.length;
        }

        void put(char sign) {
            if (length >= 0 && length < signs.length) {
                signs[length] = sign;
                length++;
            }
        }

        int signAt(int k) {
            return k >= 0 && k < length && k < signs.length ? signs[k] : -1;
        }
    }

    /** A session, played by the settings of a stream but with a mode and a start of its own. */
    private static final class Session {
        private final Stream stream;
        private final Shelf video = new Shelf();
        private final Shelf audio = new Shelf();
        private final Samples samples = new Samples();
        final Download download = new Download();
        final Accounts accounts = new Accounts();
        final Line line = new Line();
        private int mode;
        private int startThreshold;
        // The rung of the download of video that began last; -1 before the first one.
        private int lastRung;
        private int lastChange;
        int state = NO_SESSION;
        int time;
        int position;

        Session(Stream stream) {
            this.stream = stream;
        }

        void begin(int newMode, int newStartThreshold) {
            mode = newMode;
            startThreshold = newStartThreshold;
            video.empty();
            audio.empty();
            samples.empty();
            accounts.empty();
            line.empty();
            download.going = false;
            lastRung = -1;
            lastChange = 0;
            state = STARTING;
            time = 0;
            position = 0;
        }

        void copyFrom(Session other) {
            mode = other.mode;
            startThreshold = other.startThreshold;
            video.copyFrom(other.video);
            audio.copyFrom(other.audio);
            samples.copyFrom(other.samples);
            accounts.copyFrom(other.accounts);
            line.copyFrom(other.line);
            download.copyFrom(other.download);
            lastRung = other.lastRung;
            lastChange = other.lastChange;
            state = other.state;
            time = other.time;
            position = other.position;
        }

        void advance(int milliseconds) {
            for (int i = 0; i < milliseconds; i++) {
                if (time % 1000 == 0) {
                    line.put(signNow());
                }
                if (!download.going) {
                    beginNext();
                }
                if (download.going) {
                    receive();
                }
                if (mayBeAbandoned()) {
                    abandonIfSlow();
                }
                if (isReadyToPlay()) {
                    state = PLAYING;
                }
                if (state == PLAYING) {
                    play();
                }
                accounts.spendIn(state);
                time++;
            }
        }

        private char signNow() {
            switch (state) {
                case STARTING: return 's';
                case STALLED: return '-';
                case ENDED: return 'e';
                default: return (char) ('0' + video.rungAt(stream.segmentAt(position - 1)));
            }
        }

        /** Step 1, when no download is going on. */
        private void beginNext() {
            boolean videoFits = hasNext(VIDEO);
            boolean audioFits = hasNext(AUDIO);
            if (videoFits && (!audioFits || video.segments <= audio.segments)) {
                beginDownload(VIDEO, video.segments, videoRung());
            } else if (audioFits) {
                beginDownload(AUDIO, audio.segments, rungByThroughput(stream.audio, 500));
            }
        }

        private boolean hasNext(int track) {
            int next = shelfOf(track).segments;
            return stream.ladderOf(track).rungs > 0
                && next < stream.valueOf(SEGMENTS)
                && stream.isAvailable(next, time)
                && bufferOf(track) + stream.valueOf(SEGMENT_LENGTH) <= stream.valueOf(CAP);
        }

        private void beginDownload(int track, int segment, int rung) {
            if (track == VIDEO) {
                lastChange = lastRung >= 0 && rung != lastRung ? time : lastChange;
                lastRung = rung;
            }
            download.going = true;
            download.track = track;
            download.segment = segment;
            download.rung = rung;
            download.waiting = stream.valueOf(NETWORK_LATENCY);
            download.duration = 0;
            download.bits = stream.bitsOf(track, rung, segment);
            download.received = 0;
        }

        /** Step 2, when a download is going on. */
        private void receive() {
            download.receiveAt(stream.plan.rateAt(time));
            if (!download.isWhole()) {
                return;
            }
            download.going = false;
            samples.put(download.bits, download.duration);
            accounts.finished++;
            shelfOf(download.track).put(download.rung);
            if (download.track == VIDEO && video.endsInSwitch()) {
                accounts.switches++;
            }
        }

        /** Whether step 3 looks at the download at all. */
        private boolean mayBeAbandoned() {
            return download.going
                && download.track == VIDEO
                && download.rung > 0
                && download.received > 0
                && download.duration >= stream.valueOf(GRACE) + stream.valueOf(NETWORK_LATENCY);
        }

        private void abandonIfSlow() {
            long left = download.timeFor(download.bits - download.received);
            if (left <= bufferOf(VIDEO)) {
                return;
            }
            for (int rung = download.rung - 1; rung >= 0; rung--) {
                long again = download.timeFor(stream.bitsOf(VIDEO, rung, download.segment));
                if (again < left) {
                    accounts.abandoned++;
                    accounts.wasted += download.received;
                    beginDownload(VIDEO, download.segment, rung);
                    return;
                }
            }
        }

        private boolean isReadyToPlay() {
            if (state == STARTING) {
                return smallestBuffer() >= startThreshold || isAllDownloaded();
            }
            if (state == STALLED) {
                return smallestBuffer() >= stream.valueOf(RESUME_THRESHOLD) || isAllDownloaded();
            }
            return false;
        }

        private boolean isAllDownloaded() {
            int all = stream.valueOf(SEGMENTS);
            return video.segments >= all && (!stream.hasAudio() || audio.segments >= all);
        }

        /** The second half of step 4, in the state of playing. */
        private void play() {
            int buffer = smallestBuffer();
            if (buffer == 0) {
                leavePlaying();
                return;
            }
            int rung = video.rungAt(stream.segmentAt(position));
            accounts.quality += stream.video.rateOf(rung);
            position += buffer >= 2 && isCatchingUp(buffer) ? 2 : 1;
        }

        private void leavePlaying() {
            if (position == stream.valueOf(SEGMENTS) * stream.valueOf(SEGMENT_LENGTH)) {
                state = ENDED;
            } else {
                state = STALLED;
                accounts.stalls++;
            }
        }

        private boolean isCatchingUp(int buffer) {
            return time % 10 == 0
                && stream.isLive()
                && behindLive() > stream.valueOf(TARGET_LATENCY)
                && buffer >= stream.valueOf(LOW_BUFFER);
        }

        int behindLive() {
            return time + stream.valueOf(LIVE_DELAY) - position;
        }

        Shelf shelfOf(int track) {
            return track == VIDEO ? video : audio;
        }

        int bufferOf(int track) {
            if (stream.ladderOf(track).rungs == 0) {
                return 0;
            }
            return shelfOf(track).segments * stream.valueOf(SEGMENT_LENGTH) - position;
        }

        private int smallestBuffer() {
            int buffer = bufferOf(VIDEO);
            return stream.hasAudio() ? Math.min(buffer, bufferOf(AUDIO)) : buffer;
        }

        int throughput() {
            return samples.rateOver(stream.valueOf(WINDOW));
        }

        /** The rung that a download of video takes if it begins now. */
        int videoRung() {
            if (lastRung < 0) {
                return 0;
            }
            int chosen = stream.video.rungs - 1;
            if (mode != BY_BUFFER) {
                chosen = rungByThroughput(stream.video, 100);
            }
            if (mode != BY_THROUGHPUT) {
                chosen = Math.min(chosen, rungByBuffer());
            }
            if (chosen <= lastRung) {
                return chosen;
            }
            boolean held = time - lastChange < stream.valueOf(HOLD);
            return held ? lastRung : lastRung + 1;
        }

        /** The greatest rung whose rate times a factor is within the safe estimate, or rung 0. */
        private int rungByThroughput(Ladder ladder, int factor) {
            int estimate = samples.rateOver(stream.valueOf(WINDOW));
            long limit = (long) estimate * stream.valueOf(SAFETY);
            for (int rung = ladder.rungs - 1; rung > 0; rung--) {
                if ((long) ladder.rateOf(rung) * factor <= limit) {
                    return rung;
                }
            }
            return 0;
        }

        private int rungByBuffer() {
            int buffer = bufferOf(VIDEO);
            int low = stream.valueOf(LOW_BUFFER);
            int high = stream.valueOf(HIGH_BUFFER);
            int greatest = stream.video.rungs - 1;
            if (buffer < low) {
                return 0;
            }
            if (buffer >= high || high <= low) {
                return greatest;
            }
            return greatest * (buffer - low) / (high - low);
        }

        /** The score. */
        long points() {
            long penalty = 2L * stream.video.topRate() * accounts.timeSpent(STALL_TIME);
            return accounts.quality - penalty;
        }
    }
}
