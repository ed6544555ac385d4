/** Long runs of calls, each answer compared with the one that Model gives; the same runs each time. */
public final class RandomRunsTest {
    private static final int RUNS = 400;
    private static final int MOST_CALLS = 512;
    private static final int[] ODD = {-1, -2, -6, 4, 8, 16, 64, 201, 501, 1024, 4096, 100000,
        Integer.MAX_VALUE, Integer.MIN_VALUE, Integer.MAX_VALUE - 62, Integer.MIN_VALUE + 1};
    private static final String[] PIECES = {"0", "1", "9", "20", "200", "201", "1023", "1024", "4095", "4096",
        "+", "*", ";", "+1*", "7+8*9", "0+0*1", ";5+16*30", "3+1*20;", "+8*16;", "01", "x", "-", "~", "!"};

    private final StrideBanks program = new StrideBanks();
    private final Model model = new Model();
    private long seed;

    private RandomRunsTest(int run) {
        seed = run * 0x9E3779B97F4A7C15L + 1;
    }

    public static void main(String[] args) {
        for (int run = 0; run < RUNS; run++) {
            new RandomRunsTest(run).compare(run);
        }
        Due.end();
    }

    private void compare(int run) {
        int calls = run % 4 == 0 ? MOST_CALLS : 60 + below(80);
        boolean small = run % 3 != 0;
        for (int i = 0; i < calls; i++) {
            String when = "run " + run + ", call " + i + ": ";
            if (below(5) < 3) {
                change(when, small);
            } else {
                question(when);
            }
            if (below(8) == 0) {
                everything(when);
            }
        }
        everything("run " + run + ", at the end: ");
    }

    private int below(int bound) {
        seed ^= seed << 13;
        seed ^= seed >>> 7;
        seed ^= seed << 17;
        return (int) ((seed >>> 1) % bound);
    }

    /** Now and then a number that is out of every range, or just beyond one. */
    private int upTo(int most) {
        return below(20) == 0 ? ODD[below(ODD.length)] : below(most + 1);
    }

    private void change(String when, boolean small) {
        int a = upTo(3);
        switch (below(13)) {
            case 0: {
                int[] most = {17, 13, 3, 2};
                int value = upTo(a >= 0 && a < 4 ? most[a] : 3);
                Due.is(when + "set(" + a + ", " + value + ")", program.set(a, value), model.set(a, value));
                return;
            }
            case 1: case 2: case 3: {
                int start = upTo(small ? 40 : 4095);
                int stride = upTo(small ? 20 : 1023);
                int length = upTo(small ? 12 : 200);
                Due.is(when + "add(" + start + ", " + stride + ", " + length + ")",
                    program.add(start, stride, length), model.add(start, stride, length));
                return;
            }
            case 4: case 5: text(when); return;
            case 6: Due.is(when + "drop(" + a + ")", program.drop(a), model.drop(a)); return;
            case 7: {
                int stride = upTo(small ? 20 : 1023);
                Due.is(when + "stride(" + a + ", " + stride + ")", program.stride(a, stride), model.stride(a, stride));
                return;
            }
            case 8: case 9: {
                int cycles = upTo(small ? 9 : 500);
                Due.is(when + "run(" + cycles + ")", program.run(cycles), model.run(cycles));
                return;
            }
            case 10: state(when); return;
            case 11: Due.is(when + "undo()", program.undo(), model.undo()); return;
            default:
                if (below(4) == 0) {
                    Due.is(when + "reset()", program.reset(), model.reset());
                }
        }
    }

    private void state(String when) {
        int slot = upTo(1);
        if (below(2) == 0) {
            Due.is(when + "save(" + slot + ")", program.save(slot), model.save(slot));
        } else {
            Due.is(when + "restore(" + slot + ")", program.restore(slot), model.restore(slot));
        }
    }

    private void text(String when) {
        switch (below(8)) {
            case 0: Due.is(when + "wipe()", program.wipe(), model.wipe()); return;
            case 1: case 2: Due.is(when + "read()", program.read(), model.read()); return;
            case 3: whole(when); return;
            default: {
                long characters = Due.packed(PIECES[below(PIECES.length)]);
                if (below(12) == 0) {
                    characters ^= 1L << below(64);
                }
                Due.is(when + "put(" + characters + ")", program.put(characters), model.put(characters));
                Due.is(when + "fault()", program.fault(), model.fault());
            }
        }
    }

    private void whole(String when) {
        Due.is(when + "wipe()", program.wipe(), model.wipe());
        int streams = 1 + below(3);
        StringBuilder text = new StringBuilder();
        for (int i = 0; i < streams; i++) {
            text.append(i == 0 ? "" : ";").append(below(4200)).append('+').append(below(1030));
            text.append('*').append(below(205));
        }
        for (int from = 0; from < text.length(); from += 8) {
            long characters = Due.packed(text.substring(from, Math.min(text.length(), from + 8)));
            Due.is(when + "put of " + text, program.put(characters), model.put(characters));
        }
        Due.is(when + "fault() of " + text, program.fault(), model.fault());
        Due.is(when + "read() of " + text, program.read(), model.read());
    }

    private void question(String when) {
        int a = upTo(3);
        int b = upTo(3);
        switch (below(12)) {
            case 0: {
                int address = upTo(4095);
                Due.is(when + "bankOf(" + address + ")", program.bankOf(address), model.bankOf(address));
                return;
            }
            case 1: case 2: {
                int what = upTo(9);
                Due.is(when + "stream(" + a + ", " + what + ")", program.stream(a, what), model.stream(a, what));
                return;
            }
            case 3: case 4: {
                int bank = upTo(16);
                Due.is(when + "bank(" + bank + ", " + b + ")", program.bank(bank, b), model.bank(bank, b));
                return;
            }
            case 5: case 6: {
                int what = upTo(14);
                Due.is(when + "count(" + what + ")", program.count(what), model.count(what));
                return;
            }
            case 7: Due.is(when + "untilDone()", program.untilDone(), model.untilDone()); return;
            case 8: {
                int stride = upTo(1023);
                Due.is(when + "alone(" + a + ", " + stride + ")", program.alone(a, stride), model.alone(a, stride));
                return;
            }
            case 9: {
                int from = upTo(1023);
                int to = below(10) == 0 ? upTo(1023) : from + below(8);
                Due.is(when + "bestStride(" + a + ", " + from + ", " + to + ")",
                    program.bestStride(a, from, to), model.bestStride(a, from, to));
                return;
            }
            case 10: {
                int what = upTo(1);
                Due.is(when + "bestMap(" + what + ")", program.bestMap(what), model.bestMap(what));
                return;
            }
            default: Due.is(when + "clashes(" + a + ", " + b + ")", program.clashes(a, b), model.clashes(a, b));
        }
    }

    private void everything(String when) {
        for (int what = 0; what < 14; what++) {
            Due.is(when + "count(" + what + ")", program.count(what), model.count(what));
        }
        for (int stream = 0; stream < 4; stream++) {
            for (int what = 0; what < 9; what++) {
                Due.is(when + "stream(" + stream + ", " + what + ")",
                    program.stream(stream, what), model.stream(stream, what));
            }
        }
        for (int bank = 0; bank < 16; bank++) {
            for (int what = 0; what < 4; what++) {
                Due.is(when + "bank(" + bank + ", " + what + ")", program.bank(bank, what), model.bank(bank, what));
            }
        }
    }
}
