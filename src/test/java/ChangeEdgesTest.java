/**
 * The boundary cases of promises 1 to 8 and of "Terms", a test for each sentence; the sentence stands above its test.
 */
public final class ChangeEdgesTest {
    private static final int NO_SUCH = Due.NO_SUCH, BAD_VALUE = Due.BAD_VALUE, BAD_TEXT = Due.BAD_TEXT,
        TOO_MANY = Due.TOO_MANY, NOT_POSSIBLE = Due.NOT_POSSIBLE, NONE = Due.NONE;
    private static final int MAX = Integer.MAX_VALUE, MIN = Integer.MIN_VALUE;
    private static final int[] LEAST = {2, 1, 0, 0};
    private static final int[] MOST = {16, 12, 2, 1};

    public static void main(String[] args) {
        newStoreIsEmpty();
        newStoreIsAheadOfCycle0();
        newStoreHasTheFirstValues();
        setOfNoSuchSetting();
        setOfAValueTooSmall();
        setOfAValueTooGreat();
        setOfTheLeastAndTheMost();
        setToTheValueThatIsThere();
        setOnAnEmptyStore();
        setForgetsBanksThatAreNoMore();
        addOfAStartOutOfRange();
        addOfAStrideOutOfRange();
        addOfALengthOutOfRange();
        addOfTheLeastAndTheMost();
        addToAFullStore();
        addOfBadValuesToAFullStore();
        addHasRoomAgainBehindDrop();
        addInTheMidstAsksFromTheNextCycleOn();
        addBehindTheLastCycle();
        readOfAnEmptyPad();
        readOfATextThatEndsTooEarly();
        readOfATextWithAFault();
        readUpToFour();
        readOfMoreThanFour();
        readOfAFaultIntoAFullStore();
        readOfAFullPad();
        dropOfNoSuchStream();
        dropOfNoneOfAnEmptyStore();
        dropAnswersTheWordsLeft();
        dropOfTheFirstTheLastAndTheOnlyOne();
        dropLeavesBanksBusyForAnotherOne();
        dropLeavesTheOthersTheirOwnBanks();
        dropLeavesARingOfFewer();
        strideOfNoSuchStream();
        strideOutOfRange();
        strideOutOfRangeOfNoSuchStream();
        strideOfTheLeastAndTheMost();
        strideAheadOfTheFirstWord();
        strideBehindTheLastWord();
        strideAcrossTheLastAddress();
        runOutOfRange();
        runOfTheLeastAndTheMost();
        runToTheLastCycle();
        runBeyondTheLastCycle();
        runOutOfRangeBeyondTheLastCycle();
        runOfAnEmptyStore();
        runOfStreamsThatAreDone();
        runOfRequestsBehindTheEndOfTheRing();
        resetOfAnEmptyStore();
        resetOfANewStream();
        resetOfAFullStore();
        resetBehindTheLastCycle();
        addressesGoOnFrom0();
        cyclesAreCountedFrom0();
        eachStreamAsksOnceACycle();
        fixedTurnsBeginWithStream0();
        ringBeginsAnewBehindItsLast();
        bankIsBusyForBusyCycles();
        bankThatIsFreeAgain();
        stallsOfItsOwnAndClashes();
        streamOfOneWord();
        Due.end();
    }

    /** Promise 1: "Creates a store without streams". */
    private static void newStoreIsEmpty() {
        StrideBanks x = new StrideBanks();
        Due.is("streams", x.count(5), 0);
        for (int stream = 0; stream < 4; stream++) {
            Due.is("stream " + stream, x.stream(stream, 0), NO_SUCH);
        }
        for (int what = 6; what <= 10; what++) {
            Due.is("count(" + what + ")", x.count(what), 0);
        }
        Due.is("pad", x.count(12), 0);
        Due.is("history", x.count(13), 0);
        Due.is("undo()", x.undo(), NOT_POSSIBLE);
        Due.is("restore(0)", x.restore(0), NOT_POSSIBLE);
        Due.is("restore(1)", x.restore(1), NOT_POSSIBLE);
        for (int bank = 0; bank < 8; bank++) {
            Due.bank("new", x, bank, 0, 0, 0, 0);
        }
    }

    /** Promise 1: "ahead of the cycle 0". */
    private static void newStoreIsAheadOfCycle0() {
        StrideBanks x = new StrideBanks();
        Due.is("cycles", x.count(4), 0);
        x.add(7, 0, 1);
        x.run(1);
        Due.is("the first cycle is 0", x.stream(0, 7), 0);
    }

    /** Settings: "BANKS (2 to 16; 8). BUSY (1 to 12; 4): cycles. MAP (0 to 2; 0). TURNS (0 or 1; 0)." */
    private static void newStoreHasTheFirstValues() {
        Due.counts("new", new StrideBanks(), 8, 4, 0, 0);
    }

    /** Promise 2: "BAD_VALUE if there is no such setting". */
    private static void setOfNoSuchSetting() {
        for (int setting : new int[] {-1, 4, 5, MAX, MIN}) {
            for (int value : new int[] {1, 2}) {
                Twins.refused("set(" + setting + ", " + value + ")", Scenes::onTheWay,
                    x -> x.set(setting, value), BAD_VALUE);
            }
        }
    }

    /** Promise 2: "or value is out of its range": below. */
    private static void setOfAValueTooSmall() {
        for (int setting = 0; setting < 4; setting++) {
            int number = setting;
            for (int value : new int[] {LEAST[setting] - 1, -1, -7, MIN}) {
                Twins.refused("set(" + setting + ", " + value + ")", Scenes::onTheWay,
                    x -> x.set(number, value), BAD_VALUE);
            }
        }
    }

    /** Promise 2: "or value is out of its range": above. */
    private static void setOfAValueTooGreat() {
        for (int setting = 0; setting < 4; setting++) {
            int number = setting;
            for (int value : new int[] {MOST[setting] + 1, 256, MAX}) {
                Twins.refused("set(" + setting + ", " + value + ")", Scenes::onTheWay,
                    x -> x.set(number, value), BAD_VALUE);
            }
        }
    }

    /** Promise 2: "Returns the previous value", at both ends of each range. */
    private static void setOfTheLeastAndTheMost() {
        int[] first = {8, 4, 0, 0};
        for (int setting = 0; setting < 4; setting++) {
            StrideBanks x = new StrideBanks();
            Due.is("set to the least", x.set(setting, LEAST[setting]), first[setting]);
            Due.is("the least", x.count(setting), LEAST[setting]);
            Due.is("set to the most", x.set(setting, MOST[setting]), LEAST[setting]);
            Due.is("the most", x.count(setting), MOST[setting]);
            Due.is("set to the least again", x.set(setting, LEAST[setting]), MOST[setting]);
            for (int other = 0; other < 4; other++) {
                Due.is("setting " + other, x.count(other), other == setting ? LEAST[other] : first[other]);
            }
        }
    }

    /** Promises 2 and 21: "streams begin anew by that"; recorded "also if nothing is different then". */
    private static void setToTheValueThatIsThere() {
        StrideBanks x = Scenes.of(3, 0, 2);
        x.run(7);
        Due.is("set(BUSY, 4)", x.set(StrideBanks.BUSY, 4), 4);
        Due.is("begun anew", x.count(4), 0);
        Due.stream("begun anew", x, 0, 3, 0, 2, 2, 3, 0, 0, NONE, 1);
        Due.bank("begun anew", x, 3, 0, 0, 0, 2);
        Due.is("recorded", x.count(13), 3);
        Due.is("set(BUSY, 4) once more", x.set(StrideBanks.BUSY, 4), 4);
        Due.is("recorded, though nothing is different", x.count(13), 4);
    }

    /** Promise 2 without any stream. */
    private static void setOnAnEmptyStore() {
        StrideBanks x = new StrideBanks();
        x.run(9);
        Due.is("set(TURNS, 1)", x.set(StrideBanks.TURNS, 1), 0);
        Due.counts("begun anew", x, 8, 4, 0, 1, 0, 0, 0, 0, 0, 0, 0, 7, 0, 2);
    }

    /** Promise 2: banks that are taken away and come back are as free, and their counts as empty, as all others. */
    private static void setForgetsBanksThatAreNoMore() {
        StrideBanks x = new StrideBanks();
        x.set(StrideBanks.BANKS, 16);
        x.add(15, 0, 2);
        x.run(2);
        Due.bank("16 banks", x, 15, 2, 1, 1, 1);
        Due.is("set(BANKS, 2)", x.set(StrideBanks.BANKS, 2), 16);
        Due.is("the bank is no more", x.bank(15, 0), NO_SUCH);
        Due.is("none is busy", x.count(10), 0);
        Due.is("set(BANKS, 16)", x.set(StrideBanks.BANKS, 16), 2);
        Due.bank("16 banks again", x, 15, 0, 0, 0, 2);
        Due.is("set(MAP, 2)", x.set(StrideBanks.MAP, 2), 0);
        Due.bank("never used", x, 15, 0, 0, 0, 0);
    }

    /** Promise 3: "start: 0 to 4095", "BAD_VALUE if an argument is out of range". */
    private static void addOfAStartOutOfRange() {
        for (int start : new int[] {-1, 4096, MAX, MIN}) {
            Twins.refused("add(" + start + ", 1, 1)", Scenes::onTheWay, x -> x.add(start, 1, 1), BAD_VALUE);
        }
    }

    /** Promise 3: "stride: 0 to 1023". */
    private static void addOfAStrideOutOfRange() {
        for (int stride : new int[] {-1, 1024, MAX, MIN}) {
            Twins.refused("add(1, " + stride + ", 1)", Scenes::onTheWay, x -> x.add(1, stride, 1), BAD_VALUE);
        }
    }

    /** Promise 3: "length: 1 to 200". */
    private static void addOfALengthOutOfRange() {
        for (int length : new int[] {0, -1, 201, MAX, MIN}) {
            Twins.refused("add(1, 1, " + length + ")", Scenes::onTheWay, x -> x.add(1, 1, length), BAD_VALUE);
        }
    }

    /** Promise 3: both ends of each range. */
    private static void addOfTheLeastAndTheMost() {
        StrideBanks x = new StrideBanks();
        Due.is("add(0, 0, 1)", x.add(0, 0, 1), 0);
        Due.is("add(4095, 0, 1)", x.add(4095, 0, 1), 1);
        Due.is("add(0, 1023, 1)", x.add(0, 1023, 1), 2);
        Due.is("add(0, 0, 200)", x.add(0, 0, 200), 3);
        Due.stream("all least", x, 0, 0, 0, 1, 1, 0, 0, 0, NONE, 1);
        Due.stream("greatest start", x, 1, 4095, 0, 1, 1, 4095, 0, 0, NONE, 1);
        Due.stream("greatest stride", x, 2, 0, 1023, 1, 1, 0, 0, 0, NONE, 1);
        Due.stream("greatest length", x, 3, 0, 0, 200, 200, 0, 0, 0, NONE, 1);
    }

    /** Promise 3: "TOO_MANY if there are 4". */
    private static void addToAFullStore() {
        StrideBanks x = Scenes.of(0, 0, 1, 1, 0, 1, 2, 0, 1);
        Due.is("the fourth", x.add(3, 0, 1), 3);
        Due.is("the fifth", x.add(4, 0, 1), TOO_MANY);
        Twins.refused("add(4, 0, 1)", Scenes::full, y -> y.add(4, 0, 1), TOO_MANY);
    }

    /** Conventions: "the first one that applies is returned": BAD_VALUE ahead of TOO_MANY. */
    private static void addOfBadValuesToAFullStore() {
        Twins.refused("add(4096, 0, 1)", Scenes::full, x -> x.add(4096, 0, 1), BAD_VALUE);
        Twins.refused("add(0, 1024, 1)", Scenes::full, x -> x.add(0, 1024, 1), BAD_VALUE);
        Twins.refused("add(0, 0, 0)", Scenes::full, x -> x.add(0, 0, 0), BAD_VALUE);
    }

    /** Promises 3 and 5: a store that was full has room for one more behind a drop. */
    private static void addHasRoomAgainBehindDrop() {
        StrideBanks x = Scenes.full();
        x.drop(1);
        Due.is("add(7, 7, 7)", x.add(7, 7, 7), 3);
        Due.stream("added", x, 3, 7, 7, 7, 7, 7, 0, 0, NONE, 7);
        Due.is("one more", x.add(7, 7, 7), TOO_MANY);
    }

    /** Promise 3: "with all its words left; it asks from the next cycle on". */
    private static void addInTheMidstAsksFromTheNextCycleOn() {
        StrideBanks x = new StrideBanks();
        x.run(5);
        x.add(6, 1, 2);
        Due.is("all its words", x.stream(0, 3), 2);
        Due.is("the cycles stay", x.count(4), 5);
        x.run(2);
        Due.is("at the cycles 5 and 6", x.stream(0, 7), 6);
    }

    /** Promises 3 and 7: a stream may be added behind the last cycle, though it can't run. */
    private static void addBehindTheLastCycle() {
        StrideBanks x = Scenes.late();
        Due.is("cycles", x.count(4), 99999);
        Due.is("add(5, 5, 5)", x.add(5, 5, 5), 2);
        Due.is("run(1)", x.run(1), TOO_MANY);
        Due.is("all its words", x.stream(2, 3), 5);
    }

    /** Promise 4: "BAD_TEXT if the pad has a fault"; of Texts: "also if it is empty". */
    private static void readOfAnEmptyPad() {
        Twins.refused("read() of a new store", Scenes::empty, StrideBanks::read, BAD_TEXT);
        Twins.refused("read() of an empty pad", Scenes::late, StrideBanks::read, BAD_TEXT);
    }

    /** Promise 4 of texts that end too early. */
    private static void readOfATextThatEndsTooEarly() {
        for (String text : new String[] {"7", "7+", "7+7", "7+7*", "7+7*7;", "7+7*7;8+8*"}) {
            Twins.refused("read() of " + text, () -> Scenes.with(text), StrideBanks::read, BAD_TEXT);
        }
        Twins.refused("read() on the way", Scenes::onTheWay, StrideBanks::read, BAD_TEXT);
    }

    /** Promise 4 of texts with a character that cannot stand at its place, behind streams that are good. */
    private static void readOfATextWithAFault() {
        for (String text : new String[] {"x", "7+7*7;x", "7+7*7;4096+1*1", "7+7*0", "7+7*7;7+1024*1", "7+07*7"}) {
            Twins.refused("read() of " + text, () -> Scenes.with(text), StrideBanks::read, BAD_TEXT);
        }
    }

    /** Promise 4: "Returns how many streams there are then", up to four; "empties the pad". */
    private static void readUpToFour() {
        String four = "4095+1023*200;4095+1023*200;4095+1023*200;4095+1023*200";
        StrideBanks x = Scenes.with(four);
        Due.is("length of the longest text of four", x.count(12), 55);
        Due.is("read() of four", x.read(), 4);
        Due.is("pad", x.count(12), 0);
        Due.stream("the last", x, 3, 4095, 1023, 200, 200, 4095, 0, 0, NONE, 8);
        String[] texts = {"1+1*1", "1+1*1;2+2*2", "1+1*1;2+2*2;3+3*3"};
        for (int streams = 1; streams <= 3; streams++) {
            StrideBanks y = Scenes.with(texts[streams - 1]);
            for (int i = streams; i < 4; i++) {
                y.add(9, 9, 9);
            }
            Due.is("read() of " + streams + " behind " + (4 - streams), y.read(), 4);
            Due.stream("the last one of the text", y, 3, streams, streams, streams);
            Due.is("pad", y.count(12), 0);
        }
    }

    /** Promise 4: "TOO_MANY if there would be more than 4". */
    private static void readOfMoreThanFour() {
        String[] texts = {"1+1*1", "1+1*1;2+2*2", "1+1*1;2+2*2;3+3*3", "1+1*1;2+2*2;3+3*3;4+4*4",
            "1+1*1;2+2*2;3+3*3;4+4*4;5+5*5"};
        for (int streams = 1; streams <= 5; streams++) {
            String text = texts[streams - 1];
            int there = 5 - streams;
            Twins.refused("read() of " + text + " behind " + there, () -> {
                StrideBanks x = Scenes.with(text);
                for (int i = 0; i < there; i++) {
                    x.add(i, i, 9);
                }
                x.run(2);
                return x;
            }, StrideBanks::read, TOO_MANY);
        }
    }

    /** Conventions: "the first one that applies is returned": BAD_TEXT ahead of TOO_MANY. */
    private static void readOfAFaultIntoAFullStore() {
        Twins.refused("read() of a fault", () -> {
            StrideBanks x = Scenes.full();
            Due.putAll(x, ";x");
            return x;
        }, StrideBanks::read, BAD_TEXT);
        Twins.refused("read() of five and of a fault", () -> Scenes.with("1+1*1;1+1*1;1+1*1;1+1*1;1+1*1;"),
            StrideBanks::read, BAD_TEXT);
    }

    /** Promises 4 and 18: a pad of 60 characters, with a fault, and without. */
    private static void readOfAFullPad() {
        String ten = "0+0*1;0+0*1;0+0*1;0+0*1;0+0*1;0+0*1;0+0*1;0+0*1;0+0*1;";
        Twins.refused("read() of ten", () -> Scenes.with(ten + "0+0*10"), StrideBanks::read, TOO_MANY);
        Twins.refused("read() of an end too early", () -> Scenes.with(ten + "0+102*"), StrideBanks::read, BAD_TEXT);
        Twins.refused("read() of a fault at the last place", () -> Scenes.with(ten + "0+0*1x"),
            StrideBanks::read, BAD_TEXT);
    }

    /** Promise 5: "NO_SUCH if there is no such stream". */
    private static void dropOfNoSuchStream() {
        for (int stream : new int[] {-1, 3, 4, MAX, MIN}) {
            Twins.refused("drop(" + stream + ")", Scenes::onTheWay, x -> x.drop(stream), NO_SUCH);
        }
        Twins.refused("drop(4) of four", Scenes::full, x -> x.drop(4), NO_SUCH);
    }

    /** Promise 5 of a store without streams. */
    private static void dropOfNoneOfAnEmptyStore() {
        Twins.refused("drop(0)", Scenes::empty, x -> x.drop(0), NO_SUCH);
    }

    /** Promise 5: "Returns how many words it had left": all, some, none. */
    private static void dropAnswersTheWordsLeft() {
        StrideBanks x = Scenes.of(0, 1, 200, 0, 0, 3, 7, 0, 1);
        x.run(1);
        Due.is("some", x.drop(0), 199);
        Due.is("all", x.drop(0), 3);
        Due.is("none", x.drop(0), 0);
        Due.is("no more", x.drop(0), NO_SUCH);
    }

    /** Promise 5: "those behind it get numbers that are 1 less". */
    private static void dropOfTheFirstTheLastAndTheOnlyOne() {
        StrideBanks x = Scenes.of(1, 0, 9, 2, 0, 9, 3, 0, 9, 4, 0, 9);
        x.drop(0);
        starts("the first one is gone", x, 2, 3, 4);
        x.drop(2);
        starts("the last one is gone", x, 2, 3);
        x.drop(0);
        starts("the first one is gone", x, 3);
        x.drop(0);
        starts("the only one is gone", x);
        Due.is("added anew", x.add(5, 0, 9), 0);
        starts("added anew", x, 5);
    }

    private static void starts(String when, StrideBanks x, int... due) {
        Due.is(when + ": streams", x.count(5), due.length);
        for (int stream = 0; stream < 4; stream++) {
            Due.is(when + ": stream " + stream, x.stream(stream, 0), stream < due.length ? due[stream] : NO_SUCH);
        }
    }

    /** Promise 5: "Banks that it made busy stay so, for a stream that is another one." */
    private static void dropLeavesBanksBusyForAnotherOne() {
        StrideBanks x = Scenes.of(0, 0, 9, 8, 0, 9);
        x.run(1);
        x.drop(0);
        Due.is("busy still", x.bank(0, 0), 3);
        x.run(1);
        Due.stream("8, now with the number of the dropped one", x, 0, 8, 0, 9, 9, 8, 2, 2, NONE);
        x.drop(0);
        Due.is("busy still, though there is no stream", x.bank(0, 0), 2);
        Due.is("in the next cycle, too", x.count(10), 1);
        x.add(16, 0, 9);
        x.run(2);
        Due.stream("added anew with that number", x, 0, 16, 0, 9, 9, 16, 2, 2, NONE);
        x.run(2);
        Due.stream("its own one from now on", x, 0, 16, 0, 9, 8, 16, 3, 2, NONE);
    }

    /** Promise 5: "those behind it get numbers that are 1 less": the banks that they made busy are theirs still. */
    private static void dropLeavesTheOthersTheirOwnBanks() {
        for (int gone = 0; gone < 4; gone++) {
            StrideBanks x = Scenes.of(0, 0, 9, 1, 0, 9, 2, 0, 9, 3, 0, 9);
            x.run(1);
            x.drop(gone);
            x.run(3);
            for (int stream = 0; stream < 3; stream++) {
                int start = stream < gone ? stream : stream + 1;
                Due.stream("stalls of its own, without " + gone, x, stream, start, 0, 9, 8, start, 3, 0);
            }
        }
    }

    /** Promise 5 and Cycles: the ring is the one of the streams that are there. */
    private static void dropLeavesARingOfFewer() {
        StrideBanks x = new StrideBanks();
        x.set(StrideBanks.TURNS, 1);
        x.set(StrideBanks.BUSY, 1);
        x.add(0, 0, 9);
        x.add(0, 0, 9);
        x.add(0, 0, 9);
        x.run(3);
        x.drop(2);
        x.run(1);
        Due.is("1 at the cycle 3, of two", x.stream(1, 3), 7);
        x.drop(0);
        x.run(1);
        Due.is("0 at the cycle 4, of one", x.stream(0, 3), 6);
        x.drop(0);
        Due.is("none of none", x.run(1), 0);
    }

    /** Promise 6: "NO_SUCH if there is no such stream". */
    private static void strideOfNoSuchStream() {
        for (int stream : new int[] {-1, 3, 4, MAX, MIN}) {
            Twins.refused("stride(" + stream + ", 5)", Scenes::onTheWay, x -> x.stride(stream, 5), NO_SUCH);
        }
        Twins.refused("stride(0, 5) of none", Scenes::empty, x -> x.stride(0, 5), NO_SUCH);
        Twins.refused("stride(4, 5) of four", Scenes::full, x -> x.stride(4, 5), NO_SUCH);
    }

    /** Promise 6: "BAD_VALUE if stride is out of range". */
    private static void strideOutOfRange() {
        for (int stride : new int[] {-1, 1024, MAX, MIN}) {
            Twins.refused("stride(0, " + stride + ")", Scenes::onTheWay, x -> x.stride(0, stride), BAD_VALUE);
        }
    }

    /** Conventions: NO_SUCH ahead of BAD_VALUE. */
    private static void strideOutOfRangeOfNoSuchStream() {
        Twins.refused("stride(3, 1024)", Scenes::onTheWay, x -> x.stride(3, 1024), NO_SUCH);
        Twins.refused("stride(-1, -1)", Scenes::onTheWay, x -> x.stride(-1, -1), NO_SUCH);
    }

    /** Promise 6: "stride: 0 to 1023", "Returns the previous one". */
    private static void strideOfTheLeastAndTheMost() {
        StrideBanks x = Scenes.of(5, 3, 4);
        x.run(1);
        Due.is("stride(0, 0)", x.stride(0, 0), 3);
        Due.is("next", x.stream(0, 4), 5);
        Due.is("stride(0, 1023)", x.stride(0, 1023), 0);
        Due.is("next", x.stream(0, 4), 1028);
        Due.is("stride(0, 1023) again", x.stride(0, 1023), 1023);
        Due.is("a change each", x.count(13), 5);
    }

    /** Promise 6: "(its start, if none was)": also if it was asked for, but not done. */
    private static void strideAheadOfTheFirstWord() {
        StrideBanks x = Scenes.of(0, 0, 1, 8, 1, 4);
        x.stride(1, 9);
        Due.is("not asked for", x.stream(1, 4), 8);
        x.run(2);
        Due.is("it stalled", x.stream(1, 5), 2);
        x.stride(1, 7);
        Due.is("asked for, not done", x.stream(1, 4), 8);
        x.run(3);
        Due.is("done", x.stream(1, 4), 15);
    }

    /** Promise 6 of a stream that is done: there is no next word. */
    private static void strideBehindTheLastWord() {
        StrideBanks x = Scenes.of(6, 1, 2);
        x.run(2);
        Due.is("stride(0, 3)", x.stride(0, 3), 1);
        Due.stream("done still", x, 0, 6, 3, 2, 0, NONE, 0, 0, 1, 2);
        Due.is("bank of 10", x.bank(2, 3), 0);
        Due.is("run(9)", x.run(9), 0);
        Due.is("reset()", x.reset(), 2);
        x.run(1);
        Due.is("with the stride of now", x.stream(0, 4), 9);
    }

    /** Promise 6 and Streams: "behind 4095 from 0 on". */
    private static void strideAcrossTheLastAddress() {
        StrideBanks x = Scenes.of(4095, 0, 3);
        x.run(1);
        x.stride(0, 1);
        Due.is("4095 and 1", x.stream(0, 4), 0);
        x.stride(0, 1023);
        Due.is("4095 and 1023", x.stream(0, 4), 1022);
        StrideBanks y = Scenes.of(3073, 0, 3);
        y.run(1);
        y.stride(0, 1022);
        Due.is("3073 and 1022", y.stream(0, 4), 4095);
        y.stride(0, 1023);
        Due.is("3073 and 1023", y.stream(0, 4), 0);
    }

    /** Promise 7: "BAD_VALUE if cycles is out of range". */
    private static void runOutOfRange() {
        for (int cycles : new int[] {0, -1, 501, MAX, MIN}) {
            Twins.refused("run(" + cycles + ")", Scenes::onTheWay, x -> x.run(cycles), BAD_VALUE);
        }
    }

    /** Promise 7: "cycles: 1 to 500", "Returns how many requests are done in them". */
    private static void runOfTheLeastAndTheMost() {
        StrideBanks x = Scenes.of(0, 0, 200, 1, 0, 200);
        Due.is("run(1)", x.run(1), 2);
        Due.is("cycles", x.count(4), 1);
        Due.is("run(500): at 4, 8, .. 500", x.run(500), 250);
        Due.is("cycles", x.count(4), 501);
    }

    /** Promise 7: "TOO_MANY if the cycles would be above 99999": 99999 is not above. */
    private static void runToTheLastCycle() {
        StrideBanks x = new StrideBanks();
        for (int i = 0; i < 199; i++) {
            x.run(500);
        }
        x.run(498);
        Due.is("cycles", x.count(4), 99998);
        x.add(0, 0, 2);
        Due.is("run(2)", x.run(2), TOO_MANY);
        Due.is("run(1)", x.run(1), 1);
        Due.is("cycles", x.count(4), 99999);
        Due.is("run(1)", x.run(1), TOO_MANY);
    }

    /** Promise 7: "TOO_MANY if the cycles would be above 99999". */
    private static void runBeyondTheLastCycle() {
        for (int cycles : new int[] {1, 2, 500}) {
            Twins.refused("run(" + cycles + ")", Scenes::late, x -> x.run(cycles), TOO_MANY);
        }
    }

    /** Conventions: BAD_VALUE ahead of TOO_MANY. */
    private static void runOutOfRangeBeyondTheLastCycle() {
        for (int cycles : new int[] {0, -1, 501, MAX, MIN}) {
            Twins.refused("run(" + cycles + ") at the last cycle", Scenes::late, x -> x.run(cycles), BAD_VALUE);
        }
    }

    /** Promise 7 without streams: the cycles are run. */
    private static void runOfAnEmptyStore() {
        for (int turns = 0; turns < 2; turns++) {
            StrideBanks x = new StrideBanks();
            x.set(StrideBanks.TURNS, turns);
            Due.is("run(3)", x.run(3), 0);
            Due.counts("without streams", x, 8, 4, 0, turns, 3, 0, 0, 0, 0, 0, 0, 7, 0, 2);
        }
    }

    /** Promise 7 of streams that are done: nothing is asked for, and nothing stalls. */
    private static void runOfStreamsThatAreDone() {
        StrideBanks x = Scenes.of(0, 0, 1);
        x.run(1);
        Due.is("run(2)", x.run(2), 0);
        Due.stream("done", x, 0, 0, 0, 1, 0, NONE, 0, 0, 0, 1);
        Due.bank("done", x, 0, 1, 1, 0, 0);
        Due.is("cycles", x.count(4), 3);
    }

    /** Promise 7: "Returns how many requests are done": also of streams that are ahead of the one that begins. */
    private static void runOfRequestsBehindTheEndOfTheRing() {
        StrideBanks x = new StrideBanks();
        x.set(StrideBanks.TURNS, 1);
        x.set(StrideBanks.BUSY, 1);
        for (int stream = 0; stream < 4; stream++) {
            x.add(stream, 0, 9);
        }
        for (int cycle = 0; cycle < 4; cycle++) {
            Due.is("cycle " + cycle, x.run(1), 4);
        }
        Due.is("five cycles", x.run(5), 20);
    }

    /** Promise 8 without streams: 0, and a change. */
    private static void resetOfAnEmptyStore() {
        StrideBanks x = new StrideBanks();
        Due.is("reset()", x.reset(), 0);
        Due.is("recorded", x.count(13), 1);
        x.run(3);
        Due.is("reset()", x.reset(), 0);
        Due.is("cycles", x.count(4), 0);
    }

    /** Promise 8 where nothing is different then. */
    private static void resetOfANewStream() {
        StrideBanks x = Scenes.of(1, 2, 3);
        Due.is("reset()", x.reset(), 3);
        Due.stream("as before", x, 0, 1, 2, 3, 3, 1, 0, 0, NONE, 3);
        Due.is("recorded", x.count(13), 2);
    }

    /** Promises 2 and 8: all of four streams begin anew. */
    private static void resetOfAFullStore() {
        for (int way = 0; way < 2; way++) {
            StrideBanks x = Scenes.of(0, 0, 1, 1, 1, 2, 2, 2, 3, 3, 3, 200);
            x.run(50);
            x.stride(3, 0);
            if (way == 0) {
                Due.is("reset()", x.reset(), 206);
            } else {
                Due.is("set(BUSY, 4)", x.set(StrideBanks.BUSY, 4), 4);
            }
            Due.counts("begun anew", x, 8, 4, 0, 0, 0, 4, 206, 0, 0, 0, 0, 7, 0, 6);
            Due.stream("begun anew", x, 0, 0, 0, 1, 1, 0, 0, 0, NONE, 1);
            Due.stream("begun anew", x, 1, 1, 1, 2, 2, 1, 0, 0, NONE, 2);
            Due.stream("begun anew", x, 2, 2, 2, 3, 3, 2, 0, 0, NONE, 3);
            Due.stream("begun anew", x, 3, 3, 0, 200, 200, 3, 0, 0, NONE, 1);
        }
    }

    /** Promise 8: "ahead of the cycle 0 ... all banks free; all counts of streams and banks are 0". */
    private static void resetBehindTheLastCycle() {
        StrideBanks x = Scenes.late();
        Due.is("reset()", x.reset(), 18);
        Due.counts("begun anew", x, 8, 12, 0, 0, 0, 2, 18, 0, 0, 0, 0, 7, 0, 6);
        Due.stream("begun anew", x, 0, 1, 1, 9, 9, 1, 0, 0, NONE, 8);
        Due.stream("begun anew", x, 1, 2, 0, 9, 9, 2, 0, 0, NONE, 1);
        Due.bank("begun anew", x, 2, 0, 0, 0, 10);
        Due.is("run(1): all banks free", x.run(1), 2);
    }

    /** Streams: "behind 4095 from 0 on: what is left by 4096". */
    private static void addressesGoOnFrom0() {
        StrideBanks x = Scenes.of(4094, 1, 3, 3073, 1023, 3);
        x.run(1);
        Due.is("4094 and 1", x.stream(0, 4), 4095);
        Due.is("3073 and 1023", x.stream(1, 4), 0);
        x.run(1);
        Due.is("4095 and 1", x.stream(0, 4), 0);
        Due.is("0 and 1023", x.stream(1, 4), 1023);
    }

    /** Cycles: "Cycles are counted from 0." */
    private static void cyclesAreCountedFrom0() {
        StrideBanks x = Scenes.of(0, 1, 3);
        x.run(3);
        Due.is("ended at the cycle 2", x.stream(0, 7), 2);
        Due.is("three were run", x.count(4), 3);
    }

    /** Cycles: "In a cycle each stream that has words left asks for its next word, once". */
    private static void eachStreamAsksOnceACycle() {
        StrideBanks x = Scenes.of(0, 1, 9, 8, 1, 9, 4, 1, 9, 0, 0, 9);
        Due.is("run(1)", x.run(1), 2);
        Due.stream("done", x, 0, 0, 1, 9, 8, 1, 0, 0);
        Due.stream("stalled once", x, 1, 8, 1, 9, 9, 8, 1, 1);
        Due.stream("done", x, 2, 4, 1, 9, 8, 5, 0, 0);
        Due.stream("stalled once", x, 3, 0, 0, 9, 9, 0, 1, 1);
    }

    /** Cycles: "with TURNS as 0 from the stream 0 on". */
    private static void fixedTurnsBeginWithStream0() {
        StrideBanks x = new StrideBanks();
        x.set(StrideBanks.BUSY, 1);
        x.add(0, 0, 2);
        x.add(0, 0, 2);
        x.add(0, 0, 2);
        int[] ended = {1, 3, 5};
        x.run(6);
        for (int stream = 0; stream < 3; stream++) {
            Due.is("ended " + stream, x.stream(stream, 7), ended[stream]);
            Due.is("clashes " + stream, x.stream(stream, 6), 2 * stream);
        }
    }

    /** Cycles: "with TURNS as 1 from the stream on that is left of the cycle by the number of streams, in the ring". */
    private static void ringBeginsAnewBehindItsLast() {
        StrideBanks x = new StrideBanks();
        x.set(StrideBanks.BUSY, 1);
        x.set(StrideBanks.TURNS, 1);
        for (int stream = 0; stream < 4; stream++) {
            x.add(0, 0, 3);
        }
        for (int cycle = 0; cycle < 12; cycle++) {
            int asked = cycle % 4;
            int left = x.stream(asked, 3);
            Due.is("cycle " + cycle, x.run(1), 1);
            Due.is("stream " + asked + " at the cycle " + cycle, x.stream(asked, 3), left - 1);
        }
        // 3 begins at the cycle 3 and is done already: 0 is behind it in the ring, ahead of 1.
        StrideBanks y = new StrideBanks();
        y.set(StrideBanks.BUSY, 1);
        y.set(StrideBanks.TURNS, 1);
        y.add(0, 0, 9);
        y.add(0, 0, 9);
        y.add(1, 0, 9);
        y.add(2, 0, 1);
        y.run(4);
        Due.is("0 at the cycles 0, 2 and 3", y.stream(0, 3), 6);
        Due.is("1 at the cycle 1", y.stream(1, 3), 8);
    }

    /** Cycles: "the bank is busy in this cycle and in those behind it, BUSY cycles in all". */
    private static void bankIsBusyForBusyCycles() {
        for (int busy = 1; busy <= 12; busy++) {
            StrideBanks x = new StrideBanks();
            x.set(StrideBanks.BUSY, busy);
            x.add(5, 8, 3);
            Due.is("cycle 0", x.run(1), 1);
            Due.is("busy still", x.bank(5, 0), busy - 1);
            Due.is("banks that are busy", x.count(10), busy > 1 ? 1 : 0);
            if (busy > 1) {
                Due.is("to the cycle " + (busy - 1), x.run(busy - 1), 0);
            }
            Due.is("free", x.bank(5, 0), 0);
            Due.is("none is busy", x.count(10), 0);
            Due.is("cycle " + busy, x.run(1), 1);
            Due.is("stalls", x.stream(0, 5), busy - 1);
        }
    }

    /** Cycles: a bank that has become free is taken by the first one that asks, and is that one's from then on. */
    private static void bankThatIsFreeAgain() {
        StrideBanks x = Scenes.of(0, 0, 1, 0, 0, 2);
        x.run(4);
        Due.stream("clashes with 0", x, 1, 0, 0, 2, 2, 0, 4, 4);
        x.run(4);
        Due.stream("then stalls of its own", x, 1, 0, 0, 2, 1, 0, 7, 4);
        x.run(1);
        Due.is("ended", x.stream(1, 7), 8);
    }

    /** Cycles: "A stall is a clash if the request that made the bank busy was of another stream, otherwise its own". */
    private static void stallsOfItsOwnAndClashes() {
        StrideBanks x = Scenes.of(0, 0, 3, 8, 0, 3);
        x.run(1);
        Due.stream("done", x, 0, 0, 0, 3, 2, 0, 0, 0);
        Due.stream("a clash in the same cycle", x, 1, 8, 0, 3, 3, 8, 1, 1);
        x.run(1);
        Due.stream("a stall of its own", x, 0, 0, 0, 3, 2, 0, 1, 0);
        Due.stream("a clash", x, 1, 8, 0, 3, 3, 8, 2, 2);
        Due.is("all stalls", x.count(8), 3);
        Due.is("clashes among them", x.count(9), 2);
        Due.is("stalls that the bank made", x.bank(0, 2), 3);
    }

    /** Streams, Cycles: a stream of one word is done with it, whatever its stride is. */
    private static void streamOfOneWord() {
        StrideBanks x = Scenes.of(4095, 1023, 1);
        Due.stream("ahead", x, 0, 4095, 1023, 1, 1, 4095, 0, 0, NONE, 1);
        Due.is("run(1)", x.run(1), 1);
        Due.stream("done", x, 0, 4095, 1023, 1, 0, NONE, 0, 0, 0, 1);
        Due.is("run(1)", x.run(1), 0);
    }
}
