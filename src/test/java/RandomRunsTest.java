/**
 * Long runs of calls, each answer compared with the one that Model gives; the same runs each time. No run has more
 * calls than an object is promised for.
 */
public final class RandomRunsTest {
    private static final int RUNS = 900;
    private static final int MOST_CALLS = 512;
    private static final int CALLS_OF_EVERYTHING = 14 + 4 * 9 + 16 * 4;
    private static final int MOST_CALLS_OF_A_STEP = 12;
    private static final int[] ODD = {-1, -2, -6, 4, 8, 16, 64, 201, 501, 1024, 4096, 100000,
        Integer.MAX_VALUE, Integer.MIN_VALUE, Integer.MAX_VALUE - 62, Integer.MIN_VALUE + 1};
    private static final String[] PIECES = {"0", "1", "9", "20", "200", "201", "1023", "1024", "4095", "4096",
        "+", "*", ";", "+1*", "7+8*9", "0+0*1", ";5+16*30", "3+1*20;", "+8*16;", "01", "x", "-", "~", "!"};

    private final StrideBanks program = new StrideBanks();
    private final Model model = new Model();
    private long seed;
    private int calls;

    private RandomRunsTest(int run) {
        seed = run * 0x9E3779B97F4A7C15L + 1;
    }

    public static void main(String[] args) {
        for (int run = 0; run < RUNS; run++) {
            new RandomRunsTest(run).compare(run);
        }
        Due.end();
    }

    private void compare(int run) {
        int most = run % 4 == 0 ? MOST_CALLS : 200 + below(200);
        boolean small = run % 3 != 0;
        for (int i = 0; calls + MOST_CALLS_OF_A_STEP + CALLS_OF_EVERYTHING <= most; i++) {
            String when = "run " + run + ", step " + i + ": ";
            if (below(5) < 3) {
                change(when, small);
            } else {
                question(when);
            }
            boolean room = calls + 2 * CALLS_OF_EVERYTHING + MOST_CALLS_OF_A_STEP <= most;
            if (room && below(40) == 0) {
                everything(when);
            }
        }
        everything("run " + run + ", at the end: ");
        Due.is("run " + run + " has more calls than are promised", calls > MOST_CALLS ? 1 : 0, 0);
    }

    private void same(String call, int got, int due) {
        calls++;
        Due.is(call, got, due);
    }

    private int below(int bound) {
        seed ^= seed << 13;
        seed ^= seed >>> 7;
        seed ^= seed << 17;
        return (int) ((seed >>> 1) % bound);
    }

    /** Now and then a number that is out of every range, or just beyond one. */
    private int upTo(int most) {
        return below(20) == 0 ? ODD[below(ODD.length)] : below(most + 1);
    }

    private void change(String when, boolean small) {
        int a = upTo(3);
        switch (below(13)) {
            case 0: {
                int[] most = {17, 13, 3, 2};
                int value = upTo(a >= 0 && a < 4 ? most[a] : 3);
                same(when + "set(" + a + ", " + value + ")", program.set(a, value), model.set(a, value));
                return;
            }
            case 1: case 2: case 3: {
                int start = upTo(small ? 40 : 4095);
                int stride = upTo(small ? 20 : 1023);
                int length = upTo(small ? 12 : 200);
                same(when + "add(" + start + ", " + stride + ", " + length + ")",
                    program.add(start, stride, length), model.add(start, stride, length));
                return;
            }
            case 4: case 5: text(when); return;
            case 6: same(when + "drop(" + a + ")", program.drop(a), model.drop(a)); return;
            case 7: {
                int stride = upTo(small ? 20 : 1023);
                same(when + "stride(" + a + ", " + stride + ")", program.stride(a, stride), model.stride(a, stride));
                return;
            }
            case 8: case 9: {
                int cycles = upTo(small ? 9 : 500);
                same(when + "run(" + cycles + ")", program.run(cycles), model.run(cycles));
                return;
            }
            case 10: state(when); return;
            case 11: same(when + "undo()", program.undo(), model.undo()); return;
            default:
                if (below(4) == 0) {
                    same(when + "reset()", program.reset(), model.reset());
                }
        }
    }

    private void state(String when) {
        int slot = upTo(1);
        if (below(2) == 0) {
            same(when + "save(" + slot + ")", program.save(slot), model.save(slot));
        } else {
            same(when + "restore(" + slot + ")", program.restore(slot), model.restore(slot));
        }
    }

    private void text(String when) {
        switch (below(8)) {
            case 0: same(when + "wipe()", program.wipe(), model.wipe()); return;
            case 1: case 2: same(when + "read()", program.read(), model.read()); return;
            case 3: whole(when); return;
            default: {
                long characters = Due.packed(PIECES[below(PIECES.length)]);
                if (below(12) == 0) {
                    characters ^= 1L << below(64);
                }
                same(when + "put(" + characters + ")", program.put(characters), model.put(characters));
                same(when + "fault()", program.fault(), model.fault());
            }
        }
    }

    private void whole(String when) {
        same(when + "wipe()", program.wipe(), model.wipe());
        int streams = 1 + below(3);
        StringBuilder text = new StringBuilder();
        for (int i = 0; i < streams; i++) {
            text.append(i == 0 ? "" : ";").append(below(4200)).append('+').append(below(1030));
            text.append('*').append(below(205));
        }
        for (int from = 0; from < text.length(); from += 8) {
            long characters = Due.packed(text.substring(from, Math.min(text.length(), from + 8)));
            same(when + "put of " + text, program.put(characters), model.put(characters));
        }
        same(when + "fault() of " + text, program.fault(), model.fault());
        same(when + "read() of " + text, program.read(), model.read());
    }

    private void question(String when) {
        int a = upTo(3);
        int b = upTo(3);
        switch (below(12)) {
            case 0: {
                int address = upTo(4095);
                same(when + "bankOf(" + address + ")", program.bankOf(address), model.bankOf(address));
                return;
            }
            case 1: case 2: {
                int what = upTo(9);
                same(when + "stream(" + a + ", " + what + ")", program.stream(a, what), model.stream(a, what));
                return;
            }
            case 3: case 4: {
                int bank = upTo(16);
                same(when + "bank(" + bank + ", " + b + ")", program.bank(bank, b), model.bank(bank, b));
                return;
            }
            case 5: case 6: {
                int what = upTo(14);
                same(when + "count(" + what + ")", program.count(what), model.count(what));
                return;
            }
            case 7: same(when + "untilDone()", program.untilDone(), model.untilDone()); return;
            case 8: {
                int stride = upTo(1023);
                same(when + "alone(" + a + ", " + stride + ")", program.alone(a, stride), model.alone(a, stride));
                return;
            }
            case 9: {
                int from = upTo(1023);
                int to = below(10) == 0 ? upTo(1023) : from + below(8);
                same(when + "bestStride(" + a + ", " + from + ", " + to + ")",
                    program.bestStride(a, from, to), model.bestStride(a, from, to));
                return;
            }
            case 10: {
                int what = upTo(1);
                same(when + "bestMap(" + what + ")", program.bestMap(what), model.bestMap(what));
                return;
            }
            default: same(when + "clashes(" + a + ", " + b + ")", program.clashes(a, b), model.clashes(a, b));
        }
    }

    private void everything(String when) {
        for (int what = 0; what < 14; what++) {
            same(when + "count(" + what + ")", program.count(what), model.count(what));
        }
        for (int stream = 0; stream < 4; stream++) {
            for (int what = 0; what < 9; what++) {
                same(when + "stream(" + stream + ", " + what + ")",
                    program.stream(stream, what), model.stream(stream, what));
            }
        }
        for (int bank = 0; bank < 16; bank++) {
            for (int what = 0; what < 4; what++) {
                same(when + "bank(" + bank + ", " + what + ")", program.bank(bank, what), model.bank(bank, what));
            }
        }
    }
}
