/** Promises 1 to 8: a new object, and the changes. */
public final class ChangesTest {
    private static final int NO_SUCH = Due.NO_SUCH, BAD_VALUE = Due.BAD_VALUE, BAD_TEXT = Due.BAD_TEXT,
        TOO_MANY = Due.TOO_MANY, NOT_POSSIBLE = Due.NOT_POSSIBLE, NONE = Due.NONE;

    public static void main(String[] args) {
        promise1NewObject();
        promise2SetChecksAndAnswers();
        promise2SetBeginsAnew();
        promise3AddChecksAndAnswers();
        promise3AddAsksFromTheNextCycleOn();
        promise4Read();
        promise4ReadFailures();
        promise5DropAnswersAndRenumbers();
        promise5DropKeepsBanksBusyForAnotherStream();
        promise6StrideChecksAndAnswers();
        promise6StrideGoesOnFromTheLatestWord();
        promise7RunChecks();
        promise7RunStopsAtTheMostCycles();
        promise7RunKeepsBanksBusy();
        promise7RunByFixedTurns();
        promise7RunByRotatingTurns();
        promise7RunByRotatingTurnsOfFour();
        promise7RunWithDoneStreamsInTheRing();
        promise7RunFromAddressToAddress();
        promise8Reset();
        Due.end();
    }

    private static void promise1NewObject() {
        StrideBanks x = new StrideBanks();
        Due.counts("new", x, 8, 4, 0, 0, 0, 0, 0, 0, 0, 0, 0, 7, 0, 0, BAD_VALUE);
        for (int bank = 0; bank < 8; bank++) {
            Due.bank("new", x, bank, 0, 0, 0, 0);
        }
        Due.is("new: stream(0, 0)", x.stream(0, 0), NO_SUCH);
        Due.is("new: fault()", x.fault(), 0);
        Due.is("new: undo()", x.undo(), NOT_POSSIBLE);
        Due.is("new: restore(0)", x.restore(0), NOT_POSSIBLE);
        Due.is("new: restore(1)", x.restore(1), NOT_POSSIBLE);
        StrideBanks y = new StrideBanks();
        y.set(0, 3);
        y.add(0, 0, 1);
        Due.is("another object's banks", x.count(0), 8);
        Due.is("another object's streams", x.count(5), 0);
    }

    private static void promise2SetChecksAndAnswers() {
        StrideBanks x = new StrideBanks();
        int[] least = {2, 1, 0, 0};
        int[] most = {16, 12, 2, 1};
        int[] first = {8, 4, 0, 0};
        for (int setting = 0; setting < 4; setting++) {
            String call = "set(" + setting + ", ";
            Due.is(call + "below)", x.set(setting, least[setting] - 1), BAD_VALUE);
            Due.is(call + "above)", x.set(setting, most[setting] + 1), BAD_VALUE);
            Due.is(call + "far below)", x.set(setting, Integer.MIN_VALUE), BAD_VALUE);
            Due.is(call + "far above)", x.set(setting, Integer.MAX_VALUE), BAD_VALUE);
            Due.is("none recorded", x.count(13), 0);
            Due.is(call + "most)", x.set(setting, most[setting]), first[setting]);
            Due.is("after most", x.count(setting), most[setting]);
            Due.is(call + "least)", x.set(setting, least[setting]), most[setting]);
            Due.is("after least", x.count(setting), least[setting]);
            Due.is("two recorded", x.count(13), 2);
            Due.is("undo()", x.undo(), 1);
            Due.is("undo()", x.undo(), 0);
            Due.is("as first", x.count(setting), first[setting]);
        }
        Due.is("set(-1, 1)", x.set(-1, 1), BAD_VALUE);
        Due.is("set(4, 1)", x.set(4, 1), BAD_VALUE);
        Due.is("set(MAX, 1)", x.set(Integer.MAX_VALUE, 1), BAD_VALUE);
        Due.is("set(MIN, 1)", x.set(Integer.MIN_VALUE, 1), BAD_VALUE);
    }

    private static void promise2SetBeginsAnew() {
        StrideBanks x = new StrideBanks();
        x.add(5, 8, 3);
        x.add(5, 1, 2);
        x.run(3);
        x.stride(0, 3);
        Due.is("a bad set changes nothing", x.set(2, 3), BAD_VALUE);
        Due.is("cycles before", x.count(4), 3);
        Due.is("set to the value that is there", x.set(1, 4), 4);
        Due.counts("begun anew", x, 8, 4, 0, 0, 0, 2, 5, 0, 0, 0, 0, 7, 0, 5);
        Due.stream("begun anew", x, 0, 5, 3, 3, 3, 5, 0, 0, NONE, 3);
        Due.bank("begun anew", x, 5, 0, 0, 0, 2);
    }

    private static void promise3AddChecksAndAnswers() {
        StrideBanks x = new StrideBanks();
        Due.is("add(-1, 0, 1)", x.add(-1, 0, 1), BAD_VALUE);
        Due.is("add(4096, 0, 1)", x.add(4096, 0, 1), BAD_VALUE);
        Due.is("add(0, -1, 1)", x.add(0, -1, 1), BAD_VALUE);
        Due.is("add(0, 1024, 1)", x.add(0, 1024, 1), BAD_VALUE);
        Due.is("add(0, 0, 0)", x.add(0, 0, 0), BAD_VALUE);
        Due.is("add(0, 0, -1)", x.add(0, 0, -1), BAD_VALUE);
        Due.is("add(0, 0, 201)", x.add(0, 0, 201), BAD_VALUE);
        Due.is("add of the greatest", x.add(Integer.MAX_VALUE, Integer.MAX_VALUE, Integer.MAX_VALUE), BAD_VALUE);
        Due.is("none recorded", x.count(13), 0);
        Due.is("add(0, 0, 1)", x.add(0, 0, 1), 0);
        Due.is("add(4095, 1023, 200)", x.add(4095, 1023, 200), 1);
        Due.stream("the greatest", x, 1, 4095, 1023, 200, 200, 4095, 0, 0, NONE, 8);
        Due.is("add(7, 0, 2)", x.add(7, 0, 2), 2);
        Due.is("add(8, 0, 2)", x.add(8, 0, 2), 3);
        Due.is("a fifth", x.add(9, 0, 2), TOO_MANY);
        Due.is("a fifth that is bad", x.add(9, 0, 0), BAD_VALUE);
        Due.is("four recorded", x.count(13), 4);
        Due.is("four streams", x.count(5), 4);
        Due.stream("the last", x, 3, 8, 0, 2, 2, 8, 0, 0, NONE, 1);
    }

    private static void promise3AddAsksFromTheNextCycleOn() {
        StrideBanks x = new StrideBanks();
        x.add(0, 1, 9);
        Due.is("run(3)", x.run(3), 3);
        Due.is("add(2, 1, 2)", x.add(2, 1, 2), 1);
        Due.stream("added", x, 1, 2, 1, 2, 2, 2, 0, 0, NONE, 2);
        Due.is("the cycles stay", x.count(4), 3);
        Due.is("run(1)", x.run(1), 1);
        Due.stream("bank 2 is busy from cycle 2 on", x, 1, 2, 1, 2, 2, 2, 1, 1, NONE);
        Due.is("run(3): free at cycle 6", x.run(3), 4);
        Due.stream("asked at cycle 6", x, 1, 2, 1, 2, 1, 3, 3, 3, NONE);
    }

    private static void promise4Read() {
        StrideBanks x = new StrideBanks();
        x.add(1, 2, 3);
        x.run(2);
        Due.putAll(x, "4095+1023*200;0+0*1");
        Due.is("read()", x.read(), 3);
        Due.is("the pad is empty", x.count(12), 0);
        Due.is("fault() of the empty pad", x.fault(), 0);
        Due.stream("first", x, 0, 1, 2, 3, 1, 5, 0, 0, NONE, 3);
        Due.stream("read", x, 1, 4095, 1023, 200, 200, 4095, 0, 0, NONE, 8);
        Due.stream("read", x, 2, 0, 0, 1, 1, 0, 0, 0, NONE, 1);
        Due.is("a change is recorded", x.count(13), 3);
        Due.is("read() again", x.read(), BAD_TEXT);
        Due.putAll(x, "12+34*56");
        Due.is("read() of the fourth", x.read(), 4);
        Due.stream("read", x, 3, 12, 34, 56, 56, 12, 0, 0, NONE, 4);
    }

    private static void promise4ReadFailures() {
        StrideBanks x = new StrideBanks();
        Due.is("read() of nothing", x.read(), BAD_TEXT);
        Due.putAll(x, "1+1*1;");
        Due.is("read() of an unended text", x.read(), BAD_TEXT);
        Due.is("the pad stays", x.count(12), 6);
        Due.putAll(x, "2+2*2;3+3*3;4+4*4;5+5*5");
        Due.is("read() of five", x.read(), TOO_MANY);
        Due.is("the pad stays", x.count(12), 29);
        Due.is("nothing is added", x.count(5), 0);
        Due.is("nothing is recorded", x.count(13), 0);
        x.wipe();
        Due.putAll(x, "1+1*1;2+2*2;3+3*3;4+4*4");
        Due.is("add(0, 0, 1)", x.add(0, 0, 1), 0);
        Due.is("read() of four behind one", x.read(), TOO_MANY);
        Due.is("drop(0)", x.drop(0), 1);
        Due.is("read() of four", x.read(), 4);
        Due.putAll(x, "7");
        Due.is("a fault goes ahead of too many", x.read(), BAD_TEXT);
        x.wipe();
        Due.putAll(x, "0+0*1;0+0*1;0+0*1;0+0*1;0+0*1;0+0*1;0+0*1;0+0*1;0+0*1;0+0*1");
        Due.is("fault() of ten", x.fault(), NONE);
        Due.is("read() of ten", x.read(), TOO_MANY);
    }

    private static void promise5DropAnswersAndRenumbers() {
        StrideBanks x = new StrideBanks();
        Due.is("drop(0) of none", x.drop(0), NO_SUCH);
        x.add(0, 1, 3);
        x.add(9, 1, 4);
        x.add(18, 1, 5);
        Due.is("run(2)", x.run(2), 4);
        Due.is("drop(3)", x.drop(3), NO_SUCH);
        Due.is("drop(-1)", x.drop(-1), NO_SUCH);
        Due.is("drop(MAX)", x.drop(Integer.MAX_VALUE), NO_SUCH);
        Due.is("four recorded", x.count(13), 4);
        Due.is("words left", x.stream(1, 3), 3);
        Due.is("drop(1)", x.drop(1), 3);
        Due.is("streams", x.count(5), 2);
        Due.stream("stays", x, 0, 0, 1, 3, 2, 1, 1, 1, NONE, 3);
        Due.stream("moved up", x, 1, 18, 1, 5, 3, 20, 0, 0, NONE, 5);
        Due.is("stream(2, 0)", x.stream(2, 0), NO_SUCH);
        Due.is("requests of those that are there", x.count(7), 3);
        Due.is("a bank's requests stay", x.bank(1, 1), 1);
        Due.is("a bank's stalls stay", x.bank(1, 2), 1);
        Due.is("five recorded", x.count(13), 5);
        Due.is("add gets the next number", x.add(40, 2, 2), 2);
        Due.stream("added", x, 2, 40, 2, 2, 2, 40, 0, 0, NONE, 2);
    }

    private static void promise5DropKeepsBanksBusyForAnotherStream() {
        StrideBanks x = new StrideBanks();
        x.add(0, 0, 3);
        x.run(1);
        Due.is("drop(0)", x.drop(0), 2);
        Due.is("busy still", x.bank(0, 0), 3);
        Due.is("add(0, 0, 3)", x.add(0, 0, 3), 0);
        x.run(1);
        Due.is("another one's number is no claim", x.stream(0, 6), 1);

        StrideBanks y = new StrideBanks();
        y.add(1, 0, 1);
        y.add(0, 0, 3);
        y.add(2, 0, 3);
        y.run(1);
        Due.is("drop(0)", y.drop(0), 0);
        y.run(1);
        Due.stream("a stall of its own", y, 0, 0, 0, 3, 2, 0, 1, 0, NONE);
        Due.stream("a stall of its own", y, 1, 2, 0, 3, 2, 2, 1, 0, NONE);
        Due.is("drop(1): that ahead keeps its number", y.drop(1), 2);
        y.run(1);
        Due.stream("a stall of its own", y, 0, 0, 0, 3, 2, 0, 2, 0, NONE);
    }

    private static void promise6StrideChecksAndAnswers() {
        StrideBanks x = new StrideBanks();
        Due.is("stride(0, 0) of none", x.stride(0, 0), NO_SUCH);
        x.add(3, 2, 4);
        Due.is("stride(1, 1024)", x.stride(1, 1024), NO_SUCH);
        Due.is("stride(-1, 0)", x.stride(-1, 0), NO_SUCH);
        Due.is("stride(0, 1024)", x.stride(0, 1024), BAD_VALUE);
        Due.is("stride(0, -1)", x.stride(0, -1), BAD_VALUE);
        Due.is("one recorded", x.count(13), 1);
        Due.is("stride(0, 1023)", x.stride(0, 1023), 2);
        Due.is("stride(0, 0)", x.stride(0, 0), 1023);
        Due.is("stride(0, 0) again", x.stride(0, 0), 0);
        Due.is("four recorded", x.count(13), 4);
    }

    private static void promise6StrideGoesOnFromTheLatestWord() {
        StrideBanks x = new StrideBanks();
        x.add(4094, 1, 6);
        x.stride(0, 7);
        Due.is("its start, if none was asked for", x.stream(0, 4), 4094);
        x.stride(0, 1);
        x.run(1);
        Due.is("next", x.stream(0, 4), 4095);
        x.stride(0, 5);
        Due.is("behind the latest one", x.stream(0, 4), 3);
        x.run(1);
        Due.is("next", x.stream(0, 4), 8);
        x.stride(0, 0);
        Due.is("the latest one again", x.stream(0, 4), 3);
        Due.is("a stalled word is not the latest one", x.run(1), 0);
        x.stride(0, 4);
        Due.is("behind the latest one that was done", x.stream(0, 4), 7);
        x.reset();
        Due.is("from its start on", x.stream(0, 4), 4094);
        x.run(1);
        Due.is("with the stride of now", x.stream(0, 4), 2);
    }

    private static void promise7RunChecks() {
        StrideBanks x = new StrideBanks();
        Due.is("run(0)", x.run(0), BAD_VALUE);
        Due.is("run(-1)", x.run(-1), BAD_VALUE);
        Due.is("run(501)", x.run(501), BAD_VALUE);
        Due.is("run(MAX)", x.run(Integer.MAX_VALUE), BAD_VALUE);
        Due.is("run(MIN)", x.run(Integer.MIN_VALUE), BAD_VALUE);
        Due.is("none recorded", x.count(13), 0);
        x.set(3, 1);
        Due.is("run(1) without streams", x.run(1), 0);
        Due.is("run(500)", x.run(500), 0);
        Due.is("cycles", x.count(4), 501);
        Due.is("three recorded", x.count(13), 3);
    }

    private static void promise7RunStopsAtTheMostCycles() {
        StrideBanks x = new StrideBanks();
        for (int i = 0; i < 199; i++) {
            Due.is("run(500)", x.run(500), 0);
        }
        Due.is("cycles", x.count(4), 99500);
        Due.is("run(500) to 100000", x.run(500), TOO_MANY);
        Due.is("run(501)", x.run(501), BAD_VALUE);
        x.add(0, 8, 2);
        Due.is("run(499) to 99999", x.run(499), 2);
        Due.is("ended", x.stream(0, 7), 99504);
        Due.is("run(1) to 100000", x.run(1), TOO_MANY);
        Due.is("cycles", x.count(4), 99999);
        x.add(0, 8, 3);
        Due.is("untilDone() goes beyond", x.untilDone(), 9);
        Due.is("reset()", x.reset(), 5);
        Due.is("run(1)", x.run(1), 1);
    }

    private static void promise7RunKeepsBanksBusy() {
        StrideBanks x = new StrideBanks();
        x.add(3, 8, 3);
        int[] done = {1, 0, 0, 0, 1, 0, 0, 0, 1, 0, 0, 0, 0};
        int[] busy = {3, 2, 1, 0, 3, 2, 1, 0, 3, 2, 1, 0, 0};
        for (int cycle = 0; cycle < done.length; cycle++) {
            Due.is("cycle " + cycle, x.run(1), done[cycle]);
            Due.is("busy behind cycle " + cycle, x.bank(3, 0), busy[cycle]);
        }
        Due.stream("at the end", x, 0, 3, 8, 3, 0, NONE, 6, 0, 8, 1);
        Due.bank("at the end", x, 3, 0, 3, 6, 0);
        x.set(1, 1);
        Due.is("busy in its own cycle only", x.run(3), 3);
        Due.stream("at the end", x, 0, 3, 8, 3, 0, NONE, 0, 0, 2, 1);
        x.set(1, 12);
        Due.is("busy for twelve", x.run(24), 2);
        Due.is("the third", x.run(1), 1);
    }

    private static void promise7RunByFixedTurns() {
        StrideBanks x = new StrideBanks();
        x.set(1, 1);
        x.add(8, 8, 3);
        x.add(16, 8, 3);
        Due.is("run(3)", x.run(3), 3);
        Due.stream("first served", x, 0, 8, 8, 3, 0, NONE, 0, 0, 2);
        Due.stream("kept back", x, 1, 16, 8, 3, 3, 16, 3, 3, NONE);
        Due.is("run(500)", x.run(500), 3);
        Due.stream("second served", x, 1, 16, 8, 3, 0, NONE, 3, 3, 5);
        Due.bank("both", x, 0, 0, 6, 3, 0);
    }

    private static void promise7RunByRotatingTurns() {
        StrideBanks x = new StrideBanks();
        x.set(1, 1);
        x.set(3, 1);
        x.add(8, 8, 3);
        x.add(16, 8, 3);
        Due.is("run(1)", x.run(1), 1);
        Due.is("0 at cycle 0", x.stream(0, 3), 2);
        Due.is("run(1)", x.run(1), 1);
        Due.is("1 at cycle 1", x.stream(1, 3), 2);
        Due.is("run(4)", x.run(4), 4);
        Due.stream("by turns", x, 0, 8, 8, 3, 0, NONE, 2, 2, 4);
        Due.stream("by turns", x, 1, 16, 8, 3, 0, NONE, 3, 3, 5);
    }

    private static void promise7RunByRotatingTurnsOfFour() {
        StrideBanks x = new StrideBanks();
        x.set(1, 1);
        x.set(3, 1);
        x.add(0, 0, 9);
        x.add(0, 0, 9);
        x.add(1, 0, 9);
        x.add(0, 0, 9);
        Due.is("run(4)", x.run(4), 8);
        Due.is("0 at cycle 0", x.stream(0, 3), 8);
        Due.is("1 at cycle 1", x.stream(1, 3), 8);
        Due.is("3 at cycles 2 and 3, ahead of 0", x.stream(3, 3), 7);
        Due.is("2 always", x.stream(2, 3), 5);
        x.drop(2);
        x.run(1);
        Due.is("of three at cycle 4", x.stream(1, 3), 7);
    }

    private static void promise7RunWithDoneStreamsInTheRing() {
        StrideBanks x = new StrideBanks();
        x.set(1, 1);
        x.set(3, 1);
        x.add(1, 0, 1);
        x.add(0, 0, 5);
        x.add(0, 0, 5);
        Due.is("run(1)", x.run(1), 2);
        Due.is("run(3)", x.run(3), 3);
        Due.is("1 at cycles 0, 1 and 3", x.stream(1, 3), 2);
        Due.is("2 at cycle 2", x.stream(2, 3), 4);
    }

    private static void promise7RunFromAddressToAddress() {
        StrideBanks x = new StrideBanks();
        x.set(0, 16);
        x.add(4000, 1000, 3);
        x.run(1);
        Due.is("5000 less 4096", x.stream(0, 4), 904);
        x.run(1);
        Due.is("next", x.stream(0, 4), 1904);
        Due.is("bank of 4000", x.bank(0, 1), 1);
        Due.is("bank of 904", x.bank(8, 1), 1);
        Due.is("1904 is in the bank 0, too, which is busy to cycle 3", x.run(2), 0);
        Due.is("stalls that it made", x.bank(0, 2), 2);
        Due.is("free at cycle 4", x.run(1), 1);
        Due.is("requests", x.bank(0, 1), 2);
    }

    private static void promise8Reset() {
        StrideBanks x = new StrideBanks();
        Due.is("reset() without streams", x.reset(), 0);
        x.add(0, 8, 3);
        x.add(0, 1, 4);
        x.run(20);
        x.stride(0, 2);
        Due.is("reset()", x.reset(), 7);
        Due.counts("begun anew", x, 8, 4, 0, 0, 0, 2, 7, 0, 0, 0, 0, 7, 0, 6);
        Due.stream("begun anew", x, 0, 0, 2, 3, 3, 0, 0, 0, NONE, 3);
        Due.stream("begun anew", x, 1, 0, 1, 4, 4, 0, 0, 0, NONE, 4);
        Due.bank("begun anew", x, 0, 0, 0, 0, 2);
        Due.is("free banks", x.run(1), 1);
        Due.is("run(2)", x.run(2), 2);
        Due.is("the stride of now", x.stream(0, 7), 2);
        x.drop(1);
        Due.is("reset() of the rest", x.reset(), 3);
        Due.is("a change each time", x.count(13), 6);
    }
}
