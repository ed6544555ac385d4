/**
 * Interleaved banks that are met by streams of strided requests.
 * Every row is made with the object and used again, because all calls of a run share one room.
 */
public final class StrideBanks {
    public static final int NO_SUCH = -1, BAD_VALUE = -2, BAD_TEXT = -3, TOO_MANY = -4, NOT_POSSIBLE = -5, NONE = -6;
    public static final int BANKS = 0, BUSY = 1, MAP = 2, TURNS = 3;

    private static final int SETTINGS = 4;
    private static final int[] LEAST_SETTING = {2, 1, 0, 0};
    private static final int[] MOST_SETTING = {16, 12, 2, 1};
    private static final int[] FIRST_SETTING = {8, 4, 0, 0};
    private static final int[] GREATEST_PRIME_TO = {0, 0, 2, 3, 3, 5, 5, 7, 7, 7, 7, 11, 11, 13, 13, 13, 13};
    private static final int SUM_MAP = 1, PRIME_MAP = 2, MAPS = 3;

    /** Some of what stream() tells of a stream; its other numbers are used there alone. */
    private static final int LENGTH = 2, LEFT = 3, STALLS = 5, CLASHES = 6, BANKS_MET = 8;

    private static final int ADDRESSES = 4096;
    private static final int MOST_STRIDE = 1023;
    private static final int MOST_LENGTH = 200;
    private static final int MOST_STREAMS = 4;
    private static final int MOST_BANKS = 16;
    private static final int MOST_CYCLES_OF_A_RUN = 500;
    private static final int MOST_CYCLES = 99999;
    private static final int WIDEST_RANGE = 63;
    private static final int MOST_UNDONE = 6;
    private static final int SLOTS = 2;

    private static final int PAD_ROOM = 60;
    private static final int CHARACTERS_OF_A_PUT = 8;
    private static final int NUMBERS_OF_A_STREAM = 3;
    private static final int[] LEAST_NUMBER = {0, 0, 1};
    private static final int[] MOST_NUMBER = {4095, 1023, 200};
    private static final char[] BEHIND_NUMBER = {'+', '*', ';'};

    /** The number of a stream that has been dropped: no stream that is there bears it. */
    private static final int NOBODY = -1;

    /** Far above what four streams can take: 4 * 200 requests, each behind at most 12 busy cycles. */
    private static final int CYCLE_BOUND = 1000000;

    private final Store now = new Store();
    private final Store trial = new Store();
    private final History history = new History();
    private final Store[] slots = new Store[SLOTS];
    private final boolean[] saved = new boolean[SLOTS];
    private final Pad pad = new Pad();

    public StrideBanks() {
        for (int slot = 0; slot < SLOTS; slot++) {
            slots[slot] = new Store();
        }
    }

    // ---- changes

    public int set(int setting, int value) {
        if (!isIn(setting, 0, SETTINGS - 1)) {
            return BAD_VALUE;
        }
        if (!isIn(value, LEAST_SETTING[setting], MOST_SETTING[setting])) {
            return BAD_VALUE;
        }
        history.record(now);
        int previous = now.settings[setting];
        now.settings[setting] = value;
        now.beginAnew();
        return previous;
    }

    public int add(int start, int stride, int length) {
        if (!isIn(start, 0, ADDRESSES - 1) || !isIn(stride, 0, MOST_STRIDE) || !isIn(length, 1, MOST_LENGTH)) {
            return BAD_VALUE;
        }
        if (now.streamCount >= MOST_STREAMS) {
            return TOO_MANY;
        }
        history.record(now);
        now.append(start, stride, length);
        return now.streamCount - 1;
    }

    public int read() {
        if (pad.firstFault() != NONE) {
            return BAD_TEXT;
        }
        int more = pad.streamsFound();
        if (now.streamCount + more > MOST_STREAMS) {
            return TOO_MANY;
        }
        history.record(now);
        for (int i = 0; i < more; i++) {
            now.append(pad.numberOf(i, 0), pad.numberOf(i, 1), pad.numberOf(i, 2));
        }
        pad.length = 0;
        return now.streamCount;
    }

    public int drop(int stream) {
        if (!now.has(stream)) {
            return NO_SUCH;
        }
        history.record(now);
        int left = now.streams[stream].left;
        now.remove(stream);
        return left;
    }

    public int stride(int stream, int stride) {
        if (!now.has(stream)) {
            return NO_SUCH;
        }
        if (!isIn(stride, 0, MOST_STRIDE)) {
            return BAD_VALUE;
        }
        history.record(now);
        int previous = now.streams[stream].stride;
        now.streams[stream].stride = stride;
        return previous;
    }

    public int run(int cycles) {
        if (!isIn(cycles, 1, MOST_CYCLES_OF_A_RUN)) {
            return BAD_VALUE;
        }
        if (now.cycle + cycles > MOST_CYCLES) {
            return TOO_MANY;
        }
        history.record(now);
        int done = 0;
        for (int i = 0; i < cycles; i++) {
            done += now.passCycle();
        }
        return done;
    }

    public int reset() {
        history.record(now);
        now.beginAnew();
        return now.total(LEFT);
    }

    // ---- what there is; nothing changes

    public int bankOf(int address) {
        if (!isIn(address, 0, ADDRESSES - 1)) {
            return BAD_VALUE;
        }
        return now.bankAt(address);
    }

    public int stream(int stream, int what) {
        if (!now.has(stream)) {
            return NO_SUCH;
        }
        StreamRow row = now.streams[stream];
        return what == BANKS_MET ? now.banksMet(row) : row.tell(what);
    }

    public int bank(int bank, int what) {
        if (!isIn(bank, 0, now.settings[BANKS] - 1)) {
            return NO_SUCH;
        }
        BankRow row = now.banks[bank];
        switch (what) {
            case 0: return Math.max(0, row.freeFrom - now.cycle);
            case 1: return row.requests;
            case 2: return row.stalls;
            case 3: return now.wordsLeftIn(bank);
            default: return BAD_VALUE;
        }
    }

    public int count(int what) {
        switch (what) {
            case BANKS: case BUSY: case MAP: case TURNS: return now.settings[what];
            case 4: return now.cycle;
            case 5: return now.streamCount;
            case 6: return now.total(LEFT);
            case 7: return now.total(LENGTH) - now.total(LEFT);
            case 8: return now.total(STALLS);
            case 9: return now.total(CLASHES);
            case 10: return now.busyBanks();
            case 11: return now.greatestPrime();
            case 12: return pad.length;
            case 13: return history.size;
            default: return BAD_VALUE;
        }
    }

    // ---- what if; nothing changes

    public int untilDone() {
        trial.copy(now);
        return trial.passAll();
    }

    public int alone(int stream, int stride) {
        if (!now.has(stream)) {
            return NO_SUCH;
        }
        if (!isIn(stride, 0, MOST_STRIDE)) {
            return BAD_VALUE;
        }
        return cyclesAlone(stream, stride);
    }

    public int bestStride(int stream, int from, int to) {
        if (!now.has(stream)) {
            return NO_SUCH;
        }
        if (!isIn(from, 0, MOST_STRIDE) || !isIn(to, from, Math.min(MOST_STRIDE, from + WIDEST_RANGE))) {
            return BAD_VALUE;
        }
        int best = from;
        int fewest = cyclesAlone(stream, from);
        for (int stride = from + 1; stride <= to; stride++) {
            int cycles = cyclesAlone(stream, stride);
            if (cycles < fewest) {
                fewest = cycles;
                best = stride;
            }
        }
        return best;
    }

    public int bestMap(int what) {
        if (!isIn(what, 0, 1)) {
            return BAD_VALUE;
        }
        int best = 0;
        int fewest = cyclesByMap(0);
        for (int map = 1; map < MAPS; map++) {
            int cycles = cyclesByMap(map);
            if (cycles < fewest) {
                fewest = cycles;
                best = map;
            }
        }
        return what == 0 ? best : fewest;
    }

    public int clashes(int one, int other) {
        if (!now.has(one) || !now.has(other)) {
            return NO_SUCH;
        }
        if (one == other) {
            return BAD_VALUE;
        }
        trial.copySettings(now);
        trial.streamCount = 0;
        trial.appendLike(now.streams[Math.min(one, other)]);
        trial.appendLike(now.streams[Math.max(one, other)]);
        trial.beginAnew();
        trial.passAll();
        return trial.total(CLASHES);
    }

    // ---- texts

    public int put(long characters) {
        int amount = charactersIn(characters);
        if (amount == 0) {
            return BAD_VALUE;
        }
        if (pad.length + amount > PAD_ROOM) {
            return TOO_MANY;
        }
        pad.append(characters, amount);
        return pad.length;
    }

    public int wipe() {
        int length = pad.length;
        pad.length = 0;
        return length;
    }

    public int fault() {
        return pad.firstFault();
    }

    // ---- undo, saving

    public int undo() {
        if (history.size == 0) {
            return NOT_POSSIBLE;
        }
        history.takeBack(now);
        return history.size;
    }

    public int save(int slot) {
        if (!isIn(slot, 0, SLOTS - 1)) {
            return BAD_VALUE;
        }
        slots[slot].copy(now);
        saved[slot] = true;
        return now.cycle;
    }

    public int restore(int slot) {
        if (!isIn(slot, 0, SLOTS - 1)) {
            return BAD_VALUE;
        }
        if (!saved[slot]) {
            return NOT_POSSIBLE;
        }
        history.record(now);
        now.copy(slots[slot]);
        return now.cycle;
    }

    // ---- helpers

    private static boolean isIn(int value, int least, int most) {
        return value >= least && value <= most;
    }

    private int cyclesAlone(int stream, int stride) {
        trial.copySettings(now);
        trial.freeBanks();
        return trial.lonelyCycles(now.streams[stream], stride);
    }

    private int cyclesByMap(int map) {
        trial.copy(now);
        trial.settings[MAP] = map;
        trial.beginAnew();
        return trial.passAll();
    }

    /** Tells 0 also of a number that holds anything that is no character, since no such number may be put. */
    private static int charactersIn(long characters) {
        int amount = 0;
        long rest = characters;
        while (rest != 0 && amount < CHARACTERS_OF_A_PUT) {
            int code = (int) (rest & 255);
            if (!isIn(code, 33, 126)) {
                return 0;
            }
            amount++;
            rest >>>= 8;
        }
        return amount;
    }

    private static final class StreamRow {
        private int start;
        private int stride;
        private int length;
        private int left;
        private int latest;
        private int stalls;
        private int clashes;
        private int ended;

        private void beginAnew() {
            left = length;
            latest = start;
            stalls = 0;
            clashes = 0;
            ended = NONE;
        }

        private void copy(StreamRow other) {
            start = other.start;
            stride = other.stride;
            length = other.length;
            left = other.left;
            latest = other.latest;
            stalls = other.stalls;
            clashes = other.clashes;
            ended = other.ended;
        }

        private int tell(int what) {
            switch (what) {
                case 0: return start;
                case 1: return stride;
                case LENGTH: return length;
                case LEFT: return left;
                case 4: return left > 0 ? nextAddress() : NONE;
                case STALLS: return stalls;
                case CLASHES: return clashes;
                case 7: return ended;
                default: return BAD_VALUE;
            }
        }

        /** Reckoned anew from the latest word each time, so that a changed stride counts from there on. */
        private int nextAddress() {
            return left == length ? start : (latest + stride) % ADDRESSES;
        }

        private void finishRequest(int address, int cycle) {
            latest = address;
            left--;
            if (left == 0) {
                ended = cycle;
            }
        }
    }

    private static final class BankRow {
        private int freeFrom;
        private int maker;
        private int requests;
        private int stalls;

        private void beginAnew() {
            freeFrom = 0;
            maker = NOBODY;
            requests = 0;
            stalls = 0;
        }

        private void copy(BankRow other) {
            freeFrom = other.freeFrom;
            maker = other.maker;
            requests = other.requests;
            stalls = other.stalls;
        }
    }

    /** All that undo and the slots keep: the settings, the streams, the banks and the cycle. */
    private static final class Store {
        private final int[] settings = new int[SETTINGS];
        private final StreamRow[] streams = new StreamRow[MOST_STREAMS];
        private final BankRow[] banks = new BankRow[MOST_BANKS];
        private int streamCount;
        private int cycle;

        private Store() {
            System.arraycopy(FIRST_SETTING, 0, settings, 0, SETTINGS);
            for (int i = 0; i < MOST_STREAMS; i++) {
                streams[i] = new StreamRow();
            }
            for (int i = 0; i < MOST_BANKS; i++) {
                banks[i] = new BankRow();
                banks[i].beginAnew();
            }
        }

        private void copySettings(Store other) {
            System.arraycopy(other.settings, 0, settings, 0, SETTINGS);
        }

        private void copy(Store other) {
            copySettings(other);
            for (int i = 0; i < MOST_STREAMS; i++) {
                streams[i].copy(other.streams[i]);
            }
            for (int i = 0; i < MOST_BANKS; i++) {
                banks[i].copy(other.banks[i]);
            }
            streamCount = other.streamCount;
            cycle = other.cycle;
        }

        private void freeBanks() {
            for (int i = 0; i < MOST_BANKS; i++) {
                banks[i].beginAnew();
            }
        }

        private void beginAnew() {
            cycle = 0;
            freeBanks();
            for (int i = 0; i < streamCount; i++) {
                streams[i].beginAnew();
            }
        }

        private boolean has(int stream) {
            return stream >= 0 && stream < streamCount;
        }

        private void append(int start, int stride, int length) {
            if (streamCount >= MOST_STREAMS) {
                return;
            }
            StreamRow row = streams[streamCount];
            row.start = start;
            row.stride = stride;
            row.length = length;
            row.beginAnew();
            streamCount++;
        }

        private void appendLike(StreamRow other) {
            append(other.start, other.stride, other.length);
        }

        /** The row of the dropped stream goes behind those that stay, to be used again. */
        private void remove(int stream) {
            StreamRow gone = streams[stream];
            for (int i = stream; i < streamCount - 1; i++) {
                streams[i] = streams[i + 1];
            }
            streamCount--;
            streams[streamCount] = gone;
            for (int i = 0; i < MOST_BANKS; i++) {
                if (banks[i].maker == stream) {
                    banks[i].maker = NOBODY;
                } else if (banks[i].maker > stream) {
                    banks[i].maker--;
                }
            }
        }

        private int greatestPrime() {
            return GREATEST_PRIME_TO[settings[BANKS]];
        }

        private int bankAt(int address) {
            int divisor = settings[MAP] == PRIME_MAP ? greatestPrime() : settings[BANKS];
            if (divisor < 1) {
                return 0;
            }
            int sum = settings[MAP] == SUM_MAP ? address + address / divisor : address;
            return sum % divisor;
        }

        /** Answers how many requests were done in the cycle. */
        private int passCycle() {
            int done = 0;
            int first = settings[TURNS] == 1 && streamCount > 0 ? cycle % streamCount : 0;
            for (int i = first; i < streamCount; i++) {
                done += ask(i);
            }
            for (int i = 0; i < first; i++) {
                done += ask(i);
            }
            cycle++;
            return done;
        }

        /** Answers how many requests were done by that: 1 or 0. */
        private int ask(int stream) {
            StreamRow row = streams[stream];
            if (row.left == 0) {
                return 0;
            }
            int address = row.nextAddress();
            BankRow bank = banks[bankAt(address)];
            if (bank.freeFrom > cycle) {
                bank.stalls++;
                row.stalls++;
                row.clashes += bank.maker == stream ? 0 : 1;
                return 0;
            }
            bank.freeFrom = cycle + settings[BUSY];
            bank.maker = stream;
            bank.requests++;
            row.finishRequest(address, cycle);
            return 1;
        }

        private int passAll() {
            int left = total(LEFT);
            int passed = 0;
            while (left > 0 && passed < CYCLE_BOUND) {
                left -= passCycle();
                passed++;
            }
            return passed;
        }

        /** A stream alone is held up by its own requests only, so it goes from word to word, not from cycle to cycle. */
        private int lonelyCycles(StreamRow row, int stride) {
            int passed = 0;
            int address = row.start;
            for (int i = 0; i < row.length; i++) {
                BankRow bank = banks[bankAt(address)];
                int done = Math.max(passed, bank.freeFrom);
                bank.freeFrom = done + settings[BUSY];
                passed = done + 1;
                address = (address + stride) % ADDRESSES;
            }
            return passed;
        }

        private int banksMet(StreamRow row) {
            int met = 0;
            int address = row.start;
            for (int i = 0; i < row.length; i++) {
                met |= 1 << bankAt(address);
                address = (address + row.stride) % ADDRESSES;
            }
            return Integer.bitCount(met);
        }

        private int wordsLeftIn(int bank) {
            int words = 0;
            for (int i = 0; i < streamCount; i++) {
                StreamRow row = streams[i];
                int address = row.nextAddress();
                for (int word = 0; word < row.left; word++) {
                    words += bankAt(address) == bank ? 1 : 0;
                    address = (address + row.stride) % ADDRESSES;
                }
            }
            return words;
        }

        private int total(int what) {
            int sum = 0;
            for (int i = 0; i < streamCount; i++) {
                sum += streams[i].tell(what);
            }
            return sum;
        }

        private int busyBanks() {
            int busy = 0;
            for (int i = 0; i < MOST_BANKS; i++) {
                busy += banks[i].freeFrom > cycle ? 1 : 0;
            }
            return busy;
        }
    }

    private static final class History {
        private final Store[] states = new Store[MOST_UNDONE];
        private int size;

        private History() {
            for (int i = 0; i < MOST_UNDONE; i++) {
                states[i] = new Store();
            }
        }

        private void record(Store state) {
            if (size == MOST_UNDONE) {
                forgetOldest();
            }
            states[size].copy(state);
            size++;
        }

        private void forgetOldest() {
            Store oldest = states[0];
            for (int i = 1; i < MOST_UNDONE; i++) {
                states[i - 1] = states[i];
            }
            states[MOST_UNDONE - 1] = oldest;
            size--;
        }

        private void takeBack(Store state) {
            if (size == 0) {
                return;
            }
            size--;
            state.copy(states[size]);
        }
    }

    private static final class Pad {
        private final char[] text = new char[PAD_ROOM];
        private int length;

        /** As large as the text: each number has at least one digit. */
        private final int[] numbers = new int[PAD_ROOM];
        private int numbersFound;

        private void append(long characters, int amount) {
            for (int i = amount - 1; i >= 0; i--) {
                text[length] = (char) (characters >>> (8 * i) & 255);
                length++;
            }
        }

        /** Leaves the numbers that it met in their row, since a text without a fault is read next. */
        private int firstFault() {
            numbersFound = 0;
            int digits = 0;
            for (int i = 0; i < length; i++) {
                int part = numbersFound % NUMBERS_OF_A_STREAM;
                if (isIn(text[i], '0', '9')) {
                    if (!takesDigit(part, digits, text[i] - '0')) {
                        return i;
                    }
                    digits++;
                } else {
                    if (digits == 0 || text[i] != BEHIND_NUMBER[part]) {
                        return i;
                    }
                    digits = 0;
                    numbersFound++;
                }
            }
            boolean inLength = numbersFound % NUMBERS_OF_A_STREAM == NUMBERS_OF_A_STREAM - 1;
            if (digits == 0 || !inLength) {
                return length;
            }
            numbersFound++;
            return NONE;
        }

        private boolean takesDigit(int part, int digits, int digit) {
            int before = digits == 0 ? 0 : numbers[numbersFound];
            int value = before * 10 + digit;
            boolean leadingZero = digits > 0 && before == 0;
            if (leadingZero || !isIn(value, LEAST_NUMBER[part], MOST_NUMBER[part])) {
                return false;
            }
            numbers[numbersFound] = value;
            return true;
        }

        private int streamsFound() {
            return numbersFound / NUMBERS_OF_A_STREAM;
        }

        private int numberOf(int stream, int part) {
            return numbers[stream * NUMBERS_OF_A_STREAM + part];
        }
    }
}
