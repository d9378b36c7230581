import java.util.Arrays;

/**
 * A telemetry frame commutator and decommutator: parameters are planned into the words of minor
 * frames, frames are sent as bits over a disturbed channel, and a receiver finds and keeps the sync
 * pattern and checks the received values against limits.
 */
public final class FrameCommutator {
    public static final int NONE = -1;

    private static final int MIN_WORDS = 6;
    private static final int MAX_WORDS = 16;
    private static final int MAX_MINORS = 8;
    private static final int HEADER_WORDS = 3;
    private static final int SYNC_WORDS = 2;
    private static final int SYNC_HIGH = 235;
    private static final int SYNC_LOW = 144;
    private static final int FILL = 85;
    private static final int WORD_BITS = 8;
    private static final int WORD_MASK = 255;

    private static final int SYNC_BITS = SYNC_WORDS * WORD_BITS;
    private static final int SYNC_MASK = 65535;
    private static final int SYNC = SYNC_HIGH * 256 + SYNC_LOW;

    private static final int MAX_PARAMETERS = 12;
    private static final int MAX_RATE = 4;
    private static final int CANNOT_PLACE = -10;
    private static final int MAX_VALUE = 255;
    private static final int MODES = 3;
    private static final int MAX_PERSISTENCE = 5;

    private static final int MAX_BITS = 2048;
    private static final int MAX_FRAMES_A_SEND = 16;
    private static final int FLIP = 0;
    private static final int REMOVE = 1;
    private static final int INSERT_ZERO = 2;
    private static final int INSERT_ONE = 3;

    private static final int SEARCHING = 0;
    private static final int CHECKING = 1;
    private static final int LOCKED = 2;
    private static final int MISSES_TO_SEARCH = 3;

    private static final int DELIVERED = 0;
    private static final int BAD = 1;
    private static final int EARLY_SLIPS = 2;
    private static final int LATE_SLIPS = 3;
    private static final int MISSES = 4;
    private static final int CHECKS = 5;
    private static final int COUNTS = 6;

    private static final int MAX_SAVED = 4;
    private static final long HASH_START = 2837L;

    private State now;
    private final State[] saved;
    private int savedCount;
    private int newest;
    private final Layout draft;

    public FrameCommutator() {
        now = new State();
        saved = new State[MAX_SAVED];
        for (int i = 0; i < saved.length; i++) {
            saved[i] = new State();
        }
        savedCount = 0;
        newest = 0;
        draft = new Layout();
    }

    // ---- layout and plan

    public int setFrame(int words, int minors) throws IllegalArgumentException {
        requireArgument(words >= MIN_WORDS && words <= MAX_WORDS);
        requireArgument(minors == 1 || minors == 2 || minors == 4 || minors == 8);
        save();
        now.layout.words = words;
        now.layout.minors = minors;
        now.restartLink();
        return words * minors;
    }

    public int addParameter(int rate) throws IllegalArgumentException, IllegalStateException {
        boolean often = rate >= 1 && rate <= MAX_RATE;
        boolean seldom = rate == -2 || rate == -4 || rate == -8;
        requireArgument(often || seldom);
        requireState(now.parameterCount < MAX_PARAMETERS);
        save();
        int number = now.parameterCount;
        now.parameters[number].begin(rate);
        now.parameterCount = number + 1;
        now.restartLink();
        return number;
    }

    public int plan() {
        draft.copyFrom(now.layout);
        draft.freeAll();
        int failed = placeAll();
        if (failed != NONE) {
            return CANNOT_PLACE - failed;
        }
        save();
        draft.planned = true;
        now.layout.copyFrom(draft);
        return draft.wordsTaken;
    }

    public int samplesPerMajor(int parameter) throws IndexOutOfBoundsException {
        return parameterAt(parameter).samplesIn(now.layout.minors);
    }

    public int slot(int parameter, int sample, int what)
            throws IndexOutOfBoundsException, IllegalArgumentException, IllegalStateException {
        requireIndex(parameter, now.parameterCount);
        requireArgument(what == 0 || what == 1);
        requireState(now.layout.planned);
        int place = now.layout.placeOf(parameter, sample);
        requireState(place != NONE);
        return what == 0 ? place / MAX_WORDS : place % MAX_WORDS;
    }

    public int ownerOf(int minor, int word) throws IndexOutOfBoundsException, IllegalStateException {
        requireIndex(minor, now.layout.minors);
        requireIndex(word, now.layout.words);
        requireState(now.layout.planned);
        return now.layout.ownerAt(minor, word);
    }

    public double efficiency() throws IllegalStateException {
        requireState(now.layout.planned);
        return (double) now.layout.wordsTaken / (double) (now.layout.words * now.layout.minors);
    }

    // ---- sending and the channel

    public int setValue(int parameter, int value)
            throws IndexOutOfBoundsException, IllegalArgumentException {
        Parameter changed = parameterAt(parameter);
        requireArgument(value >= 0 && value <= MAX_VALUE);
        save();
        int previous = changed.value;
        changed.value = value;
        return previous;
    }

    public int send(int count) throws IllegalArgumentException, IllegalStateException {
        requireArgument(count >= 1 && count <= MAX_FRAMES_A_SEND);
        requireState(now.layout.planned);
        requireState(now.channel.size + count * now.layout.words * WORD_BITS <= MAX_BITS);
        save();
        for (int i = 0; i < count; i++) {
            now.sendMinor();
        }
        return now.channel.size;
    }

    public int pending() {
        return now.channel.size;
    }

    public int bit(int index) throws IndexOutOfBoundsException {
        requireIndex(index, now.channel.size);
        return now.channel.bits[index];
    }

    public int disturb(int kind, int index)
            throws IllegalArgumentException, IndexOutOfBoundsException, IllegalStateException {
        requireArgument(kind >= FLIP && kind <= INSERT_ONE);
        requireIndex(index, now.channel.size);
        boolean inserts = kind == INSERT_ZERO || kind == INSERT_ONE;
        requireState(!inserts || now.channel.size < MAX_BITS);
        save();
        if (kind == FLIP) {
            now.channel.flip(index);
        } else if (kind == REMOVE) {
            now.channel.remove(index);
        } else {
            now.channel.insert(index, kind == INSERT_ONE ? 1 : 0);
        }
        return now.channel.size;
    }

    // ---- receiving

    public int receive(int count) throws IllegalArgumentException, IllegalStateException {
        requireArgument(count >= 1 && count <= MAX_BITS);
        requireState(now.layout.planned);
        requireState(count <= now.channel.size);
        save();
        int before = now.receiver.counts[DELIVERED];
        now.takeBits(count);
        return now.receiver.counts[DELIVERED] - before;
    }

    public int receiverState() {
        return now.receiver.condition;
    }

    public int received(int what) throws IllegalArgumentException {
        requireArgument(what >= 0 && what < COUNTS);
        return now.receiver.counts[what];
    }

    public int sample(int parameter) throws IndexOutOfBoundsException {
        return parameterAt(parameter).latest;
    }

    public int samples(int parameter) throws IndexOutOfBoundsException {
        return parameterAt(parameter).sampleCount;
    }

    // ---- limits

    public int setMode(int mode) throws IllegalArgumentException {
        requireArgument(mode >= 0 && mode < MODES);
        save();
        int previous = now.mode;
        now.mode = mode;
        return previous;
    }

    public int setLimits(int parameter, int mode, int low, int high)
            throws IndexOutOfBoundsException, IllegalArgumentException {
        Parameter changed = parameterAt(parameter);
        requireArgument(mode >= 0 && mode < MODES);
        requireArgument(low >= 0 && low <= high && high <= MAX_VALUE);
        save();
        int previous = 1000 * changed.lows[mode] + changed.highs[mode];
        changed.lows[mode] = low;
        changed.highs[mode] = high;
        return previous;
    }

    public int setPersistence(int parameter, int persistence)
            throws IndexOutOfBoundsException, IllegalArgumentException {
        Parameter changed = parameterAt(parameter);
        requireArgument(persistence >= 1 && persistence <= MAX_PERSISTENCE);
        save();
        int previous = changed.persistence;
        changed.persistence = persistence;
        return previous;
    }

    public boolean hasAlarm(int parameter) throws IndexOutOfBoundsException {
        return parameterAt(parameter).alarmed;
    }

    public int alarms(int parameter) throws IndexOutOfBoundsException {
        return parameterAt(parameter).alarmCount;
    }

    // ---- state

    public int undo() throws IllegalStateException {
        requireState(savedCount > 0);
        // The states change places, so that the abandoned one is there to be written over.
        State abandoned = now;
        now = saved[newest];
        saved[newest] = abandoned;
        newest = (newest + MAX_SAVED - 1) % MAX_SAVED;
        savedCount--;
        return savedCount;
    }

    public long digest() {
        return mix(now.mixInto(HASH_START), savedCount);
    }

    // ---- what the calls share

    private static void requireArgument(boolean holds) {
        if (!holds) {
            throw new IllegalArgumentException("an argument is out of range");
        }
    }

    private static void requireState(boolean holds) {
        if (!holds) {
            throw new IllegalStateException("the call is not possible in this state");
        }
    }

    private static void requireIndex(int index, int size) {
        if (index < 0 || index >= size) {
            throw new IndexOutOfBoundsException("there is nothing with this number");
        }
    }

    private Parameter parameterAt(int parameter) {
        requireIndex(parameter, now.parameterCount);
        return now.parameters[parameter];
    }

    // The state is copied, not replaced: a parameter that a call has looked up before stays the one.
    private void save() {
        newest = (newest + 1) % MAX_SAVED;
        saved[newest].copyFrom(now);
        if (savedCount < MAX_SAVED) {
            savedCount++;
        }
    }

    /** Places all parameters in the draft; answers the first that cannot be placed, or NONE. */
    private int placeAll() {
        // Counting the samples down visits the parameters in the order of placing without a sort.
        for (int samples = MAX_RATE * MAX_MINORS; samples >= 0; samples--) {
            for (int i = 0; i < now.parameterCount; i++) {
                Parameter parameter = now.parameters[i];
                if (parameter.samplesIn(draft.minors) == samples && !draft.place(i, parameter.rate)) {
                    return i;
                }
            }
        }
        return NONE;
    }

    private static long mix(long hash, long value) {
        return 31L * hash + value;
    }

    /** The words and minor frames of a major frame, and which parameter has which word. */
    private static final class Layout {
        int words = 8;
        int minors = 4;
        boolean planned = false;
        int wordsTaken = 0;
        final int[] owners = new int[MAX_MINORS * MAX_WORDS];

        void copyFrom(Layout other) {
            words = other.words;
            minors = other.minors;
            planned = other.planned;
            wordsTaken = other.wordsTaken;
            System.arraycopy(other.owners, 0, owners, 0, owners.length);
        }

        void freeAll() {
            wordsTaken = 0;
            Arrays.fill(owners, NONE);
        }

        int columns() {
            return words - HEADER_WORDS;
        }

        int ownerAt(int minor, int word) {
            int place = minor * MAX_WORDS + word;
            return place >= 0 && place < owners.length ? owners[place] : NONE;
        }

        void giveWord(int minor, int word, int parameter) {
            int place = minor * MAX_WORDS + word;
            if (place >= 0 && place < owners.length) {
                owners[place] = parameter;
                wordsTaken++;
            }
        }

        /** Answers minor * MAX_WORDS + word of a sample, or NONE if there is no such sample. */
        int placeOf(int parameter, int sample) {
            int seen = 0;
            // Minor frames lie one after another in the row, so its order is that of the samples.
            for (int place = 0; place < owners.length; place++) {
                if (owners[place] == parameter) {
                    if (seen == sample) {
                        return place;
                    }
                    seen++;
                }
            }
            return NONE;
        }

        boolean place(int parameter, int rate) {
            return rate > 0 ? placeOften(parameter, rate) : placeSeldom(parameter, -rate);
        }

        private boolean placeOften(int parameter, int rate) {
            if (rate <= 0 || columns() % rate != 0) {
                return false;
            }
            int gap = columns() / rate;
            for (int first = 0; first < gap; first++) {
                if (areFree(first, gap, rate)) {
                    for (int i = 0; i < rate; i++) {
                        giveColumn(first + i * gap, 0, 1, parameter);
                    }
                    return true;
                }
            }
            return false;
        }

        private boolean placeSeldom(int parameter, int period) {
            if (minors < period) {
                return false;
            }
            for (int column = 0; column < columns(); column++) {
                for (int first = 0; first < period; first++) {
                    if (isFree(column, first, period)) {
                        giveColumn(column, first, period, parameter);
                        return true;
                    }
                }
            }
            return false;
        }

        private boolean areFree(int first, int gap, int count) {
            for (int i = 0; i < count; i++) {
                if (!isFree(first + i * gap, 0, 1)) {
                    return false;
                }
            }
            return true;
        }

        private int minorsOf(int period) {
            return period > 0 ? minors / period : 0;
        }

        private boolean isFree(int column, int first, int period) {
            int count = minorsOf(period);
            for (int i = 0; i < count; i++) {
                if (ownerAt(first + i * period, HEADER_WORDS + column) != NONE) {
                    return false;
                }
            }
            return true;
        }

        private void giveColumn(int column, int first, int period, int parameter) {
            int count = minorsOf(period);
            for (int i = 0; i < count; i++) {
                giveWord(first + i * period, HEADER_WORDS + column, parameter);
            }
        }

        long mixInto(long start) {
            if (!planned) {
                return mix(start, 0);
            }
            long hash = mix(start, 1);
            for (int minor = 0; minor < minors; minor++) {
                for (int word = 0; word < words; word++) {
                    hash = mix(hash, ownerAt(minor, word));
                }
            }
            return hash;
        }
    }

    /** A parameter: what is sent of it, what has been received of it, and its limits. */
    private static final class Parameter {
        int rate;
        int value;
        int latest;
        int sampleCount;
        final int[] lows = new int[MODES];
        final int[] highs = new int[MODES];
        int persistence;
        boolean alarmed;
        int outInRow;
        int alarmCount;

        // A parameter's object is used again after an undo: every field is set anew.
        void begin(int newRate) {
            rate = newRate;
            value = 0;
            latest = NONE;
            sampleCount = 0;
            Arrays.fill(lows, 0);
            Arrays.fill(highs, MAX_VALUE);
            persistence = 1;
            alarmed = false;
            outInRow = 0;
            alarmCount = 0;
        }

        void copyFrom(Parameter other) {
            rate = other.rate;
            value = other.value;
            latest = other.latest;
            sampleCount = other.sampleCount;
            System.arraycopy(other.lows, 0, lows, 0, MODES);
            System.arraycopy(other.highs, 0, highs, 0, MODES);
            persistence = other.persistence;
            alarmed = other.alarmed;
            outInRow = other.outInRow;
            alarmCount = other.alarmCount;
        }

        int samplesIn(int minors) {
            return rate >= 0 ? rate * minors : minors / -rate;
        }

        void takeSample(int sample, int mode) {
            latest = sample;
            sampleCount++;
            if (isWithinLimits(sample, mode)) {
                alarmed = false;
                outInRow = 0;
                return;
            }
            outInRow++;
            if (outInRow >= persistence && !alarmed) {
                alarmed = true;
                alarmCount++;
            }
        }

        private boolean isWithinLimits(int sample, int mode) {
            return mode < 0 || mode >= MODES || sample >= lows[mode] && sample <= highs[mode];
        }

        long mixInto(long start) {
            long hash = mix(start, rate);
            hash = mix(hash, value);
            hash = mix(hash, latest);
            hash = mix(hash, sampleCount);
            for (int mode = 0; mode < MODES; mode++) {
                hash = mix(hash, lows[mode]);
                hash = mix(hash, highs[mode]);
            }
            hash = mix(hash, persistence);
            hash = mix(hash, alarmed ? 1 : 0);
            hash = mix(hash, outInRow);
            return mix(hash, alarmCount);
        }
    }

    /** The bits that have been sent and not yet taken, the next one first. */
    private static final class Channel {
        final int[] bits = new int[MAX_BITS];
        int size = 0;

        void copyFrom(Channel other) {
            size = other.size;
            System.arraycopy(other.bits, 0, bits, 0, size);
        }

        void appendWord(int word) {
            for (int shift = WORD_BITS - 1; shift >= 0; shift--) {
                if (size < MAX_BITS) {
                    bits[size] = (word >> shift) & 1;
                    size++;
                }
            }
        }

        void flip(int index) {
            bits[index] = 1 - bits[index];
        }

        void remove(int index) {
            System.arraycopy(bits, index + 1, bits, index, size - index - 1);
            size--;
        }

        void insert(int index, int bit) {
            System.arraycopy(bits, index, bits, index + 1, size - index);
            bits[index] = bit;
            size++;
        }

        void dropFirst(int count) {
            System.arraycopy(bits, count, bits, 0, size - count);
            size = size - count;
        }

        long mixInto(long start) {
            long hash = mix(start, size);
            for (int i = 0; i < size; i++) {
                hash = 31L * hash + bits[i];
            }
            return hash;
        }
    }

    /** Finds minor frames in the bits that it is given. */
    private static final class Receiver {
        int condition = SEARCHING;
        int missesInRow = 0;
        final int[] counts = new int[COUNTS];
        // The words 2 and up of the minor frame that is being taken.
        final int[] frame = new int[MAX_WORDS];
        // Bits taken since word 2 of the present minor frame began, the ones behind it included.
        private int position = 0;
        // The latest bits. It begins at 0 with a search: the sync pattern's first bit is 1, so fewer
        // than 16 bits never look like the pattern.
        private int history = 0;

        void copyFrom(Receiver other) {
            condition = other.condition;
            missesInRow = other.missesInRow;
            System.arraycopy(other.counts, 0, counts, 0, counts.length);
            System.arraycopy(other.frame, 0, frame, 0, frame.length);
            position = other.position;
            history = other.history;
        }

        void restart() {
            condition = SEARCHING;
            missesInRow = 0;
            history = 0;
        }

        /** Takes a bit; answers whether a minor frame that is to be delivered is complete with it. */
        boolean takeBit(int bit, int frameBits) {
            history = (history << 1) | bit;
            if (condition == SEARCHING) {
                lookForSync();
                return false;
            }
            position++;
            if (position <= frameBits) {
                storeBit(bit);
                return position == frameBits && condition == LOCKED;
            }
            if (position == frameBits + SYNC_BITS) {
                expectSync(bit);
            } else if (position > frameBits + SYNC_BITS) {
                expectLateSync(bit);
            }
            return false;
        }

        private boolean endsWithSync(int bits) {
            return (bits & SYNC_MASK) == SYNC;
        }

        private void lookForSync() {
            if (endsWithSync(history)) {
                condition = CHECKING;
                counts[CHECKS]++;
                position = 0;
            }
        }

        private void expectSync(int bit) {
            if (endsWithSync(history)) {
                condition = LOCKED;
                continueAfterSync();
            } else if (condition == CHECKING) {
                // The history stays: the 16 bits count for the search.
                condition = SEARCHING;
            } else if (endsWithSync(history >> 1)) {
                counts[EARLY_SLIPS]++;
                continueAfterSync();
                beginFrameWith(bit);
            }
        }

        private void expectLateSync(int bit) {
            if (endsWithSync(history)) {
                counts[LATE_SLIPS]++;
                continueAfterSync();
                return;
            }
            counts[MISSES]++;
            missesInRow++;
            if (missesInRow >= MISSES_TO_SEARCH) {
                restart();
            } else {
                beginFrameWith(bit);
            }
        }

        private void continueAfterSync() {
            missesInRow = 0;
            position = 0;
        }

        private void beginFrameWith(int bit) {
            position = 1;
            storeBit(bit);
        }

        private void storeBit(int bit) {
            int word = (position - 1) / WORD_BITS;
            if (word >= 0 && word < frame.length) {
                frame[word] = ((frame[word] << 1) | bit) & WORD_MASK;
            }
        }

        long mixInto(long start) {
            long hash = mix(start, condition);
            hash = mix(hash, missesInRow);
            for (int what = 0; what < COUNTS; what++) {
                hash = mix(hash, counts[what]);
            }
            return hash;
        }
    }

    /** All that an undo brings back. */
    private static final class State {
        final Layout layout = new Layout();
        final Parameter[] parameters = new Parameter[MAX_PARAMETERS];
        int parameterCount = 0;
        int nextMinor = 0;
        final Channel channel = new Channel();
        final Receiver receiver = new Receiver();
        int mode = 0;

        State() {
            for (int i = 0; i < parameters.length; i++) {
                parameters[i] = new Parameter();
            }
        }

        void copyFrom(State other) {
            layout.copyFrom(other.layout);
            parameterCount = other.parameterCount;
            for (int i = 0; i < parameterCount; i++) {
                parameters[i].copyFrom(other.parameters[i]);
            }
            nextMinor = other.nextMinor;
            channel.copyFrom(other.channel);
            receiver.copyFrom(other.receiver);
            mode = other.mode;
        }

        void restartLink() {
            layout.planned = false;
            channel.size = 0;
            nextMinor = 0;
            receiver.restart();
        }

        void sendMinor() {
            channel.appendWord(SYNC_HIGH);
            channel.appendWord(SYNC_LOW);
            channel.appendWord(nextMinor);
            for (int word = HEADER_WORDS; word < layout.words; word++) {
                int owner = layout.ownerAt(nextMinor, word);
                channel.appendWord(isParameter(owner) ? parameters[owner].value : FILL);
            }
            nextMinor = nextMinor + 1 < layout.minors ? nextMinor + 1 : 0;
        }

        private boolean isParameter(int owner) {
            return owner >= 0 && owner < parameterCount;
        }

        void takeBits(int count) {
            int frameBits = (layout.words - SYNC_WORDS) * WORD_BITS;
            for (int i = 0; i < count; i++) {
                if (receiver.takeBit(channel.bits[i], frameBits)) {
                    deliver();
                }
            }
            channel.dropFirst(count);
        }

        private void deliver() {
            receiver.counts[DELIVERED]++;
            int minor = receiver.frame[0];
            if (minor >= layout.minors) {
                receiver.counts[BAD]++;
                return;
            }
            for (int word = HEADER_WORDS; word < layout.words; word++) {
                int owner = layout.ownerAt(minor, word);
                if (isParameter(owner)) {
                    parameters[owner].takeSample(receiver.frame[word - SYNC_WORDS], mode);
                }
            }
        }

        long mixInto(long start) {
            long hash = mix(start, layout.words);
            hash = mix(hash, layout.minors);
            hash = mix(hash, parameterCount);
            for (int i = 0; i < parameterCount; i++) {
                hash = parameters[i].mixInto(hash);
            }
            hash = layout.mixInto(hash);
            hash = mix(hash, nextMinor);
            hash = channel.mixInto(hash);
            hash = receiver.mixInto(hash);
            return mix(hash, mode);
        }
    }
}
