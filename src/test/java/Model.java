import java.util.ArrayDeque;
import java.util.ArrayList;
import java.util.HashSet;
import java.util.List;
import java.util.Set;
import java.util.regex.Matcher;
import java.util.regex.Pattern;

/**
 * The document told a second time, as naively as it can be, for RandomRunsTest to compare with.
 * It goes other ways than the program on purpose: streams keep their words and bear names that
 * never come again, banks keep a list of busy cycles, what-ifs run whole copies, texts are matched.
 */
final class Model {
    private static final int NO_SUCH = -1, BAD_VALUE = -2, BAD_TEXT = -3, TOO_MANY = -4, NOT_POSSIBLE = -5, NONE = -6;

    private static final String START = "(0|[1-9][0-9]{0,2}|[1-3][0-9]{3}|40[0-8][0-9]|409[0-5])";
    private static final String STRIDE = "(0|[1-9][0-9]{0,2}|10[01][0-9]|102[0-3])";
    private static final String LENGTH = "([1-9][0-9]?|1[0-9]{2}|200)";
    private static final String ONE = START + "\\+" + STRIDE + "\\*" + LENGTH;
    private static final Pattern TEXT = Pattern.compile(ONE + "(;" + ONE + ")*");

    private static final class Stream {
        private int name;
        private int start;
        private int stride;
        private int length;
        private List<Integer> asked = new ArrayList<>();
        private int own;
        private int clashes;
        private int ended = NONE;

        private Stream copy() {
            Stream other = new Stream();
            other.name = name;
            other.start = start;
            other.stride = stride;
            other.length = length;
            other.asked = new ArrayList<>(asked);
            other.own = own;
            other.clashes = clashes;
            other.ended = ended;
            return other;
        }

        private List<Integer> words(int first, int amount) {
            List<Integer> words = new ArrayList<>();
            for (int i = 0; i < amount; i++) {
                words.add((first + i * stride) % 4096);
            }
            return words;
        }

        private List<Integer> ahead() {
            int first = asked.isEmpty() ? start : asked.get(asked.size() - 1) + stride;
            return words(first, length - asked.size());
        }
    }

    private static final class State {
        private int[] settings = {8, 4, 0, 0};
        private int cycle;
        private int names;
        private List<Stream> streams = new ArrayList<>();
        private int[] lastBusy = new int[16];
        private int[] maker = new int[16];
        private int[] requests = new int[16];
        private int[] stalls = new int[16];

        private State() {
            clear();
        }

        private void clear() {
            cycle = 0;
            lastBusy = new int[16];
            java.util.Arrays.fill(lastBusy, -1);
            maker = new int[16];
            requests = new int[16];
            stalls = new int[16];
            for (Stream stream : streams) {
                stream.asked.clear();
                stream.own = 0;
                stream.clashes = 0;
                stream.ended = NONE;
            }
        }

        private State copy() {
            State other = new State();
            other.settings = settings.clone();
            other.cycle = cycle;
            other.names = names;
            for (Stream stream : streams) {
                other.streams.add(stream.copy());
            }
            other.lastBusy = lastBusy.clone();
            other.maker = maker.clone();
            other.requests = requests.clone();
            other.stalls = stalls.clone();
            return other;
        }

        private void join(int start, int stride, int length) {
            Stream stream = new Stream();
            names++;
            stream.name = names;
            stream.start = start;
            stream.stride = stride;
            stream.length = length;
            streams.add(stream);
        }

        private int prime() {
            int[] primes = {13, 11, 7, 5, 3, 2};
            for (int prime : primes) {
                if (prime <= settings[0]) {
                    return prime;
                }
            }
            throw new IllegalStateException();
        }

        private int place(int address) {
            int banks = settings[0];
            if (settings[2] == 0) {
                return address - address / banks * banks;
            }
            if (settings[2] == 1) {
                int sum = address + address / banks;
                return sum - sum / banks * banks;
            }
            return address - address / prime() * prime();
        }

        private int left() {
            int left = 0;
            for (Stream stream : streams) {
                left += stream.ahead().size();
            }
            return left;
        }

        private int pass() {
            int done = 0;
            for (int turn = 0; turn < streams.size(); turn++) {
                int number = settings[3] == 0 ? turn : (cycle + turn) % streams.size();
                Stream stream = streams.get(number);
                if (stream.asked.size() == stream.length) {
                    continue;
                }
                int address = stream.ahead().get(0);
                int bank = place(address);
                if (lastBusy[bank] >= cycle) {
                    stalls[bank]++;
                    if (maker[bank] == stream.name) {
                        stream.own++;
                    } else {
                        stream.clashes++;
                    }
                } else {
                    lastBusy[bank] = cycle + settings[1] - 1;
                    maker[bank] = stream.name;
                    requests[bank]++;
                    stream.asked.add(address);
                    done++;
                    if (stream.asked.size() == stream.length) {
                        stream.ended = cycle;
                    }
                }
            }
            cycle++;
            return done;
        }

        private int passAll() {
            int before = cycle;
            while (left() > 0) {
                pass();
            }
            return cycle - before;
        }
    }

    private State state = new State();
    private final ArrayDeque<State> history = new ArrayDeque<>();
    private final State[] slots = new State[2];
    private String pad = "";

    private void record() {
        history.addLast(state.copy());
        if (history.size() > 6) {
            history.removeFirst();
        }
    }

    private boolean missing(int stream) {
        return stream < 0 || stream >= state.streams.size();
    }

    int set(int setting, int value) {
        int[][] ranges = {{2, 16}, {1, 12}, {0, 2}, {0, 1}};
        if (setting < 0 || setting > 3 || value < ranges[setting][0] || value > ranges[setting][1]) {
            return BAD_VALUE;
        }
        record();
        int previous = state.settings[setting];
        state.settings[setting] = value;
        state.clear();
        return previous;
    }

    int add(int start, int stride, int length) {
        if (start < 0 || start > 4095 || stride < 0 || stride > 1023 || length < 1 || length > 200) {
            return BAD_VALUE;
        }
        if (state.streams.size() == 4) {
            return TOO_MANY;
        }
        record();
        state.join(start, stride, length);
        return state.streams.size() - 1;
    }

    int read() {
        if (fault() != NONE) {
            return BAD_TEXT;
        }
        String[] parts = pad.split(";");
        if (parts.length + state.streams.size() > 4) {
            return TOO_MANY;
        }
        record();
        for (String part : parts) {
            String[] numbers = part.split("[+*]");
            state.join(Integer.parseInt(numbers[0]), Integer.parseInt(numbers[1]), Integer.parseInt(numbers[2]));
        }
        pad = "";
        return state.streams.size();
    }

    int drop(int stream) {
        if (missing(stream)) {
            return NO_SUCH;
        }
        record();
        return state.streams.remove(stream).ahead().size();
    }

    int stride(int stream, int stride) {
        if (missing(stream)) {
            return NO_SUCH;
        }
        if (stride < 0 || stride > 1023) {
            return BAD_VALUE;
        }
        record();
        int previous = state.streams.get(stream).stride;
        state.streams.get(stream).stride = stride;
        return previous;
    }

    int run(int cycles) {
        if (cycles < 1 || cycles > 500) {
            return BAD_VALUE;
        }
        if (state.cycle + cycles > 99999) {
            return TOO_MANY;
        }
        record();
        int done = 0;
        for (int i = 0; i < cycles; i++) {
            done += state.pass();
        }
        return done;
    }

    int reset() {
        record();
        state.clear();
        return state.left();
    }

    int bankOf(int address) {
        return address < 0 || address > 4095 ? BAD_VALUE : state.place(address);
    }

    int stream(int number, int what) {
        if (missing(number)) {
            return NO_SUCH;
        }
        Stream stream = state.streams.get(number);
        List<Integer> ahead = stream.ahead();
        switch (what) {
            case 0: return stream.start;
            case 1: return stream.stride;
            case 2: return stream.length;
            case 3: return ahead.size();
            case 4: return ahead.isEmpty() ? NONE : ahead.get(0);
            case 5: return stream.own + stream.clashes;
            case 6: return stream.clashes;
            case 7: return stream.ended;
            case 8: {
                Set<Integer> met = new HashSet<>();
                for (int address : stream.words(stream.start, stream.length)) {
                    met.add(state.place(address));
                }
                return met.size();
            }
            default: return BAD_VALUE;
        }
    }

    int bank(int bank, int what) {
        if (bank < 0 || bank >= state.settings[0]) {
            return NO_SUCH;
        }
        switch (what) {
            case 0: return Math.max(0, state.lastBusy[bank] - state.cycle + 1);
            case 1: return state.requests[bank];
            case 2: return state.stalls[bank];
            case 3: {
                int words = 0;
                for (Stream stream : state.streams) {
                    for (int address : stream.ahead()) {
                        words += state.place(address) == bank ? 1 : 0;
                    }
                }
                return words;
            }
            default: return BAD_VALUE;
        }
    }

    int count(int what) {
        int done = 0;
        int stalls = 0;
        int clashes = 0;
        for (Stream stream : state.streams) {
            done += stream.asked.size();
            stalls += stream.own + stream.clashes;
            clashes += stream.clashes;
        }
        int busy = 0;
        for (int last : state.lastBusy) {
            busy += last >= state.cycle ? 1 : 0;
        }
        int[] answers = {state.settings[0], state.settings[1], state.settings[2], state.settings[3], state.cycle,
            state.streams.size(), state.left(), done, stalls, clashes, busy, state.prime(), pad.length(), history.size()};
        return what < 0 || what >= answers.length ? BAD_VALUE : answers[what];
    }

    int untilDone() {
        return state.copy().passAll();
    }

    private int alone(Stream stream, int stride) {
        State other = new State();
        other.settings = state.settings.clone();
        other.join(stream.start, stride, stream.length);
        return other.passAll();
    }

    int alone(int stream, int stride) {
        if (missing(stream)) {
            return NO_SUCH;
        }
        return stride < 0 || stride > 1023 ? BAD_VALUE : alone(state.streams.get(stream), stride);
    }

    int bestStride(int stream, int from, int to) {
        if (missing(stream)) {
            return NO_SUCH;
        }
        if (from < 0 || from > 1023 || to < from || to > 1023 || to > from + 63) {
            return BAD_VALUE;
        }
        int best = to;
        for (int stride = to; stride >= from; stride--) {
            boolean asGood = alone(stream, stride) <= alone(stream, best);
            best = asGood ? stride : best;
        }
        return best;
    }

    int bestMap(int what) {
        if (what != 0 && what != 1) {
            return BAD_VALUE;
        }
        int[] cycles = new int[3];
        for (int map = 0; map < 3; map++) {
            State other = state.copy();
            other.clear();
            other.settings[2] = map;
            cycles[map] = other.passAll();
        }
        int fewest = Math.min(cycles[0], Math.min(cycles[1], cycles[2]));
        int best = cycles[0] == fewest ? 0 : cycles[1] == fewest ? 1 : 2;
        return what == 0 ? best : fewest;
    }

    int clashes(int one, int other) {
        if (missing(one) || missing(other)) {
            return NO_SUCH;
        }
        if (one == other) {
            return BAD_VALUE;
        }
        State pair = state.copy();
        for (int i = pair.streams.size() - 1; i >= 0; i--) {
            if (i != one && i != other) {
                pair.streams.remove(i);
            }
        }
        pair.clear();
        pair.passAll();
        return pair.streams.get(0).clashes + pair.streams.get(1).clashes;
    }

    int put(long characters) {
        StringBuilder text = new StringBuilder();
        boolean ended = false;
        for (int i = 0; i < 8; i++) {
            int code = (int) (characters >> 8 * i) & 255;
            ended |= code == 0;
            if (ended ? code != 0 : code < 33 || code > 126) {
                return BAD_VALUE;
            }
            if (!ended) {
                text.insert(0, (char) code);
            }
        }
        if (text.length() == 0) {
            return BAD_VALUE;
        }
        if (pad.length() + text.length() > 60) {
            return TOO_MANY;
        }
        pad += text;
        return pad.length();
    }

    int wipe() {
        int length = pad.length();
        pad = "";
        return length;
    }

    /** A part of the text can stand as long as the matcher meets its end: more characters might match. */
    int fault() {
        for (int end = 1; end <= pad.length(); end++) {
            Matcher matcher = TEXT.matcher(pad.substring(0, end));
            if (!matcher.matches() && !matcher.hitEnd()) {
                return end - 1;
            }
        }
        return TEXT.matcher(pad).matches() ? NONE : pad.length();
    }

    int undo() {
        if (history.isEmpty()) {
            return NOT_POSSIBLE;
        }
        state = history.removeLast();
        return history.size();
    }

    int save(int slot) {
        if (slot != 0 && slot != 1) {
            return BAD_VALUE;
        }
        slots[slot] = state.copy();
        return state.cycle;
    }

    int restore(int slot) {
        if (slot != 0 && slot != 1) {
            return BAD_VALUE;
        }
        if (slots[slot] == null) {
            return NOT_POSSIBLE;
        }
        record();
        state = slots[slot].copy();
        return state.cycle;
    }
}
