/** The boundary cases of promises 13 to 17, a test for each sentence; the sentence stands above its test. */
public final class WhatIfEdgesTest {
    private static final int NO_SUCH = Due.NO_SUCH, BAD_VALUE = Due.BAD_VALUE;
    private static final int MAX = Integer.MAX_VALUE, MIN = Integer.MIN_VALUE;

    public static void main(String[] args) {
        untilDoneOfNoStreams();
        untilDoneOfStreamsThatAreDone();
        untilDoneOfOneWord();
        untilDoneOfTheMostWords();
        untilDoneBehindTheLastCycle();
        untilDoneOfBanksThatAreBusy();
        aloneOfNoSuchStream();
        aloneOfAStrideOutOfRange();
        aloneOfAStrideOutOfRangeOfNoSuchStream();
        aloneOfTheLeastAndTheMostStride();
        aloneOfOneWordAndOfTheMost();
        aloneFromItsStartOnWithAllBanksFree();
        aloneAcrossTheLastAddress();
        bestStrideOfNoSuchStream();
        bestStrideFromOutOfRange();
        bestStrideToOutOfRange();
        bestStrideOfARangeTooWide();
        bestStrideOfARangeTurnedRound();
        bestStrideOutOfRangeOfNoSuchStream();
        bestStrideOfTheWidestRange();
        bestStrideOfOneStride();
        bestStrideIsTheLeastOfSeveral();
        bestStrideMeetsBothEnds();
        bestMapOfWhatIsOutOfRange();
        bestMapOfNoStreams();
        bestMapIsTheLowestOfSeveral();
        bestMapIsTheLastOne();
        bestMapBeginsAnew();
        bestMapOfTheMostStreams();
        bestMapBehindTheLastCycle();
        clashesOfNoSuchStream();
        clashesOfBothTheSame();
        clashesOfBothTheSameThatAreNot();
        clashesOfNone();
        clashesOfTheMost();
        clashesWithTheLowerNumberFirst();
        clashesBegunAnewAlone();
        clashesBehindTheLastCycle();
        whatIfsChangeNothing();
        Due.end();
    }

    /** Promise 13: "0 if they are, or there are none": none. */
    private static void untilDoneOfNoStreams() {
        Due.is("a new store", new StrideBanks().untilDone(), 0);
        StrideBanks x = Scenes.of(0, 0, 9);
        x.run(1);
        x.drop(0);
        Due.is("behind a drop", x.untilDone(), 0);
    }

    /** Promise 13: "0 if they are": done. */
    private static void untilDoneOfStreamsThatAreDone() {
        StrideBanks x = Scenes.of(0, 1, 2, 4, 1, 3);
        x.run(2);
        Due.is("one is not", x.untilDone(), 1);
        x.run(1);
        Due.is("done", x.untilDone(), 0);
        x.run(1);
        Due.is("done still", x.untilDone(), 0);
        x.reset();
        Due.is("begun anew", x.untilDone(), 3);
    }

    /** Promise 13: "in how many cycles": the last request's own cycle is one of them, those of its busy bank are not. */
    private static void untilDoneOfOneWord() {
        StrideBanks x = Scenes.of(7, 0, 1);
        Due.is("one cycle", x.untilDone(), 1);
        Due.is("run(1)", x.run(1), 1);
        Due.is("done", x.untilDone(), 0);
    }

    /** Promise 13 for the most streams, words and busy cycles: each request but the last keeps all others waiting. */
    private static void untilDoneOfTheMostWords() {
        for (int turns = 0; turns < 2; turns++) {
            StrideBanks x = new StrideBanks();
            x.set(StrideBanks.BUSY, 12);
            x.set(StrideBanks.TURNS, turns);
            for (int i = 0; i < 4; i++) {
                x.add(0, 0, 200);
            }
            Due.is("turns " + turns, x.untilDone(), 799 * 12 + 1);
        }
    }

    /** Promises 7 and 13: cycles above 99999 can't be run, but told of. */
    private static void untilDoneBehindTheLastCycle() {
        StrideBanks x = Scenes.late();
        Due.is("words left of 0", x.stream(0, 3), 8);
        Due.is("words left of 1", x.stream(1, 3), 8);
        // The bank 2 is free in 9 cycles, and 0 takes it; 1 has it in 12 more, and then 7 times again.
        Due.is("untilDone()", x.untilDone(), 9 + 12 + 7 * 12 + 1);
        Due.is("cycles", x.count(4), 99999);
    }

    /** Promise 13: "if nothing else is done": banks stay busy as they are. */
    private static void untilDoneOfBanksThatAreBusy() {
        StrideBanks x = new StrideBanks();
        x.set(StrideBanks.BUSY, 12);
        x.add(0, 0, 1);
        x.run(1);
        x.drop(0);
        x.add(0, 0, 1);
        Due.is("eleven cycles, and its own", x.untilDone(), 12);
        x.run(11);
        Due.is("its own", x.untilDone(), 1);
    }

    /** Promise 14: "NO_SUCH if there is no such stream". */
    private static void aloneOfNoSuchStream() {
        for (int stream : new int[] {-1, 3, 4, MAX, MIN}) {
            Twins.refused("alone(" + stream + ", 1)", Scenes::onTheWay, x -> x.alone(stream, 1), NO_SUCH);
        }
        Twins.refused("alone(0, 1) of none", Scenes::empty, x -> x.alone(0, 1), NO_SUCH);
        Twins.refused("alone(4, 1) of four", Scenes::full, x -> x.alone(4, 1), NO_SUCH);
    }

    /** Promise 14: "BAD_VALUE if stride is out of range". */
    private static void aloneOfAStrideOutOfRange() {
        for (int stride : new int[] {-1, 1024, MAX, MIN}) {
            Twins.refused("alone(0, " + stride + ")", Scenes::onTheWay, x -> x.alone(0, stride), BAD_VALUE);
        }
    }

    /** Conventions: NO_SUCH ahead of BAD_VALUE. */
    private static void aloneOfAStrideOutOfRangeOfNoSuchStream() {
        Twins.refused("alone(3, 1024)", Scenes::onTheWay, x -> x.alone(3, 1024), NO_SUCH);
        Twins.refused("alone(-1, -1)", Scenes::onTheWay, x -> x.alone(-1, -1), NO_SUCH);
    }

    /** Promise 14: "stride: 0 to 1023". */
    private static void aloneOfTheLeastAndTheMostStride() {
        StrideBanks x = Scenes.of(0, 1, 5);
        Due.is("stride 0: the cycles 0, 4, .. 16", x.alone(0, 0), 17);
        Due.is("stride 1023: the banks 0, 7, 6, 5, 4", x.alone(0, 1023), 5);
    }

    /** Promise 14 for one word, and for the most words and busy cycles. */
    private static void aloneOfOneWordAndOfTheMost() {
        StrideBanks x = new StrideBanks();
        x.set(StrideBanks.BUSY, 12);
        x.add(0, 5, 1);
        x.add(0, 5, 200);
        Due.is("one word", x.alone(0, 0), 1);
        Due.is("the most", x.alone(1, 0), 199 * 12 + 1);
        x.set(StrideBanks.BUSY, 1);
        Due.is("never kept waiting", x.alone(1, 0), 200);
    }

    /** Promise 14: "alone, from its start on, with all banks free". */
    private static void aloneFromItsStartOnWithAllBanksFree() {
        StrideBanks x = Scenes.of(0, 1, 4, 0, 0, 9);
        Due.is("ahead", x.alone(0, 1), 4);
        x.run(2);
        Due.is("on its way, with busy banks", x.alone(0, 1), 4);
        x.run(40);
        Due.is("done", x.alone(0, 1), 4);
        x.stride(0, 0);
        Due.is("another stride than its own", x.alone(0, 1), 4);
        Due.is("its own stride", x.alone(0, 0), 13);
    }

    /** Promise 14 and Streams: "behind 4095 from 0 on". */
    private static void aloneAcrossTheLastAddress() {
        StrideBanks x = new StrideBanks();
        x.set(StrideBanks.BANKS, 7);
        x.add(4095, 9, 2);
        Due.is("4095 and 0: the bank 0 twice", x.alone(0, 1), 5);
        Due.is("4095 and 1: the banks 0 and 1", x.alone(0, 2), 2);
        Due.is("4095 and 7: the bank 0 twice", x.alone(0, 8), 5);
    }

    /** Promise 15: "NO_SUCH if there is no such stream". */
    private static void bestStrideOfNoSuchStream() {
        for (int stream : new int[] {-1, 3, 4, MAX, MIN}) {
            Twins.refused("bestStride(" + stream + ", 1, 2)", Scenes::onTheWay,
                x -> x.bestStride(stream, 1, 2), NO_SUCH);
        }
        Twins.refused("bestStride(0, 1, 2) of none", Scenes::empty, x -> x.bestStride(0, 1, 2), NO_SUCH);
    }

    /** Promise 15: "from: 0 to 1023". */
    private static void bestStrideFromOutOfRange() {
        for (int from : new int[] {-1, 1024, MAX, MIN}) {
            for (int to : new int[] {0, 10, from, 1023}) {
                Twins.refused("bestStride(0, " + from + ", " + to + ")", Scenes::onTheWay,
                    x -> x.bestStride(0, from, to), BAD_VALUE);
            }
        }
    }

    /** Promise 15: "to: from to 1023". */
    private static void bestStrideToOutOfRange() {
        for (int to : new int[] {1024, 1025, MAX, -1, MIN}) {
            for (int from : new int[] {1023, 1000, 0}) {
                Twins.refused("bestStride(0, " + from + ", " + to + ")", Scenes::onTheWay,
                    x -> x.bestStride(0, from, to), BAD_VALUE);
            }
        }
    }

    /** Promise 15: "at most 63 more than from". */
    private static void bestStrideOfARangeTooWide() {
        for (int from : new int[] {0, 1, 500, 959}) {
            Twins.refused("bestStride(0, " + from + ", " + (from + 64) + ")", Scenes::onTheWay,
                x -> x.bestStride(0, from, from + 64), BAD_VALUE);
        }
        Twins.refused("bestStride(0, 0, 1023)", Scenes::onTheWay, x -> x.bestStride(0, 0, 1023), BAD_VALUE);
    }

    /** Promise 15: "to: from to 1023": not below from. */
    private static void bestStrideOfARangeTurnedRound() {
        for (int from : new int[] {1, 64, 1023}) {
            Twins.refused("bestStride(0, " + from + ", " + (from - 1) + ")", Scenes::onTheWay,
                x -> x.bestStride(0, from, from - 1), BAD_VALUE);
        }
        Twins.refused("bestStride(0, 1023, 0)", Scenes::onTheWay, x -> x.bestStride(0, 1023, 0), BAD_VALUE);
    }

    /** Conventions: NO_SUCH ahead of BAD_VALUE. */
    private static void bestStrideOutOfRangeOfNoSuchStream() {
        Twins.refused("bestStride(3, -1, 0)", Scenes::onTheWay, x -> x.bestStride(3, -1, 0), NO_SUCH);
        Twins.refused("bestStride(-1, 5, 4)", Scenes::onTheWay, x -> x.bestStride(-1, 5, 4), NO_SUCH);
        Twins.refused("bestStride(3, 0, 64)", Scenes::onTheWay, x -> x.bestStride(3, 0, 64), NO_SUCH);
    }

    /** Promise 15: "at most 63 more than from": 63 more is not too many; the last one of the range is looked at. */
    private static void bestStrideOfTheWidestRange() {
        StrideBanks x = new StrideBanks();
        x.set(StrideBanks.BANKS, 2);
        x.set(StrideBanks.BUSY, 2);
        x.add(0, 0, 2);
        Due.is("0 to 63", x.bestStride(0, 0, 63), 1);
        Due.is("960 to 1023", x.bestStride(0, 960, 1023), 961);
        Due.is("959 to 1022", x.bestStride(0, 959, 1022), 959);
    }

    /** Promise 15: "to: from to 1023": as small as from. */
    private static void bestStrideOfOneStride() {
        StrideBanks x = Scenes.of(0, 1, 9);
        Due.is("0 to 0", x.bestStride(0, 0, 0), 0);
        Due.is("8 to 8", x.bestStride(0, 8, 8), 8);
        Due.is("1023 to 1023", x.bestStride(0, 1023, 1023), 1023);
    }

    /** Promise 15: "of several the least". */
    private static void bestStrideIsTheLeastOfSeveral() {
        StrideBanks x = Scenes.of(0, 0, 1, 0, 0, 5);
        Due.is("one word: all the same", x.bestStride(0, 17, 80), 17);
        Due.is("0 to 9", x.bestStride(1, 0, 9), 1);
        Due.is("4 to 9", x.bestStride(1, 4, 9), 5);
        x.set(StrideBanks.BUSY, 1);
        Due.is("never kept waiting: all the same", x.bestStride(1, 0, 63), 0);
    }

    /** Promise 15: the best one may be the first or the last one of the range. */
    private static void bestStrideMeetsBothEnds() {
        StrideBanks x = new StrideBanks();
        x.set(StrideBanks.BANKS, 2);
        x.add(0, 0, 9);
        Due.is("the last one", x.bestStride(0, 4, 5), 5);
        Due.is("the first one", x.bestStride(0, 5, 6), 5);
        Due.is("the last one of all", x.bestStride(0, 1022, 1023), 1023);
        Due.is("the first one of all, which is all there is", x.bestStride(0, 0, 0), 0);
        x.set(StrideBanks.BANKS, 16);
        x.set(StrideBanks.MAP, 2);
        Due.is("13 of 13 to 14 is the worse one", x.bestStride(0, 13, 14), 14);
    }

    /** Promise 16: "BAD_VALUE if what is neither 0 nor 1". */
    private static void bestMapOfWhatIsOutOfRange() {
        for (int what : new int[] {-1, 2, 3, MAX, MIN}) {
            Twins.refused("bestMap(" + what + ")", Scenes::onTheWay, x -> x.bestMap(what), BAD_VALUE);
            Twins.refused("bestMap(" + what + ") of none", Scenes::empty, x -> x.bestMap(what), BAD_VALUE);
        }
    }

    /** Promise 16 without streams: no cycles by any map, and the lowest. */
    private static void bestMapOfNoStreams() {
        StrideBanks x = new StrideBanks();
        x.set(StrideBanks.MAP, 2);
        x.run(3);
        Due.is("the map", x.bestMap(0), 0);
        Due.is("the cycles", x.bestMap(1), 0);
    }

    /** Promise 16: "of several the lowest". */
    private static void bestMapIsTheLowestOfSeveral() {
        StrideBanks x = new StrideBanks();
        x.set(StrideBanks.MAP, 2);
        x.add(0, 1, 2);
        Due.is("all the same", x.bestMap(0), 0);
        Due.is("cycles", x.bestMap(1), 2);
        x.drop(0);
        x.add(0, 8, 2);
        Due.is("1 and 2 the same", x.bestMap(0), 1);
        Due.is("cycles", x.bestMap(1), 2);
    }

    /** Promise 16: the map 2 can be the best one. */
    private static void bestMapIsTheLastOne() {
        StrideBanks x = new StrideBanks();
        x.set(StrideBanks.BANKS, 2);
        x.add(0, 4, 2);
        Due.is("0 and 4 by 2: all the same", x.bestMap(0), 0);
        x.set(StrideBanks.BANKS, 4);
        x.stride(0, 16);
        // By 4 both are in the bank 0, also with their rows 0 and 4; by 3 they are in 0 and 1.
        Due.is("0 and 16 by 4 and 3", x.bestMap(0), 2);
        Due.is("cycles", x.bestMap(1), 2);
    }

    /** Promise 16: "all streams, begun anew". */
    private static void bestMapBeginsAnew() {
        StrideBanks x = Scenes.of(0, 0, 2, 0, 0, 1);
        Due.is("ahead", x.bestMap(1), 9);
        x.run(2);
        Due.is("on their way", x.bestMap(1), 9);
        x.run(30);
        Due.is("done", x.bestMap(1), 9);
        Due.is("the map", x.bestMap(0), 0);
    }

    /** Promise 16: "all streams": four of them. */
    private static void bestMapOfTheMostStreams() {
        // By the map 0 all fall on the bank 0; by 1 on 0 to 3, a bank for each; by 2 on 0, 1, 2 and 3, too.
        StrideBanks x = Scenes.of(0, 0, 1, 8, 0, 1, 16, 0, 1, 24, 0, 1);
        x.run(2);
        Due.is("the map", x.bestMap(0), 1);
        Due.is("cycles", x.bestMap(1), 1);
        Due.is("by the map 0", begunAnew(x), 13);
    }

    /** Promises 7 and 16: what is told of begins at the cycle 0. */
    private static void bestMapBehindTheLastCycle() {
        StrideBanks x = Scenes.late();
        Due.is("the map", x.bestMap(0), 0);
        Due.is("the same as begun anew", x.bestMap(1), begunAnew(x));
    }

    private static int begunAnew(StrideBanks x) {
        x.reset();
        return x.untilDone();
    }

    /** Promise 17: "NO_SUCH if there is no such stream": the one, the other, both. */
    private static void clashesOfNoSuchStream() {
        for (int stream : new int[] {-1, 3, 4, MAX, MIN}) {
            Twins.refused("clashes(" + stream + ", 0)", Scenes::onTheWay, x -> x.clashes(stream, 0), NO_SUCH);
            Twins.refused("clashes(0, " + stream + ")", Scenes::onTheWay, x -> x.clashes(0, stream), NO_SUCH);
            Twins.refused("clashes(" + stream + ", 7)", Scenes::onTheWay, x -> x.clashes(stream, 7), NO_SUCH);
        }
        Twins.refused("clashes(0, 1) of none", Scenes::empty, x -> x.clashes(0, 1), NO_SUCH);
    }

    /** Promise 17: "BAD_VALUE if both are the same". */
    private static void clashesOfBothTheSame() {
        for (int stream = 0; stream < 4; stream++) {
            int both = stream;
            Twins.refused("clashes(" + both + ", " + both + ")", Scenes::full, x -> x.clashes(both, both), BAD_VALUE);
        }
    }

    /** Conventions: NO_SUCH ahead of BAD_VALUE. */
    private static void clashesOfBothTheSameThatAreNot() {
        Twins.refused("clashes(3, 3)", Scenes::onTheWay, x -> x.clashes(3, 3), NO_SUCH);
        Twins.refused("clashes(-1, -1)", Scenes::onTheWay, x -> x.clashes(-1, -1), NO_SUCH);
        Twins.refused("clashes(0, 0) of none", Scenes::empty, x -> x.clashes(0, 0), NO_SUCH);
    }

    /** Promise 17: stalls of their own are no clashes. */
    private static void clashesOfNone() {
        StrideBanks x = Scenes.of(0, 0, 9, 1, 8, 9);
        Due.is("never in one bank", x.clashes(0, 1), 0);
    }

    /** Promise 17 for the most words and busy cycles. */
    private static void clashesOfTheMost() {
        StrideBanks x = new StrideBanks();
        x.set(StrideBanks.BUSY, 12);
        x.add(0, 0, 200);
        x.add(0, 0, 200);
        // 0 has the bank to the end, as it asks first whenever it is free; 1 clashes in all cycles of 200 requests.
        Due.is("fixed", x.clashes(0, 1), 200 * 12);
        x.set(StrideBanks.TURNS, 1);
        // 12 is even: 0 is first whenever the bank is free.
        Due.is("rotating", x.clashes(0, 1), 200 * 12);
        x.set(StrideBanks.BUSY, 11);
        // By turns: each request but the last one keeps the other one waiting for 11 cycles.
        Due.is("rotating, 11 cycles", x.clashes(0, 1), 399 * 11);
    }

    /** Promise 17: "the lower number first". */
    private static void clashesWithTheLowerNumberFirst() {
        StrideBanks x = Scenes.of(0, 1, 1, 0, 0, 9);
        Due.is("1 waits four cycles for 0", x.clashes(0, 1), 4);
        Due.is("the same", x.clashes(1, 0), 4);
        StrideBanks y = Scenes.of(0, 0, 9, 0, 1, 1);
        Due.is("1 waits to the end of 0", y.clashes(0, 1), 36);
        Due.is("the same", y.clashes(1, 0), 36);
    }

    /** Promise 17: "if they were begun anew, alone with one another". */
    private static void clashesBegunAnewAlone() {
        StrideBanks x = Scenes.of(8, 0, 100, 0, 1, 1, 0, 0, 2, 8, 8, 100);
        Due.is("2 waits four cycles for 1", x.clashes(1, 2), 4);
        x.run(300);
        Due.is("on their way", x.clashes(1, 2), 4);
        x.run(500);
        x.run(500);
        Due.is("done", x.clashes(2, 1), 4);
    }

    /** Promises 7 and 17: what is told of begins at the cycle 0. */
    private static void clashesBehindTheLastCycle() {
        StrideBanks x = Scenes.late();
        int late = x.clashes(0, 1);
        x.reset();
        x.run(500);
        Due.is("all done", x.count(6), 0);
        Due.is("the same as begun anew", late, x.count(9));
    }

    /** The face: "what if; nothing changes". */
    private static void whatIfsChangeNothing() {
        Twins.unchanged("untilDone()", Scenes::onTheWay, StrideBanks::untilDone);
        Twins.unchanged("alone()", Scenes::onTheWay, x -> x.alone(0, 0) + x.alone(2, 1023));
        Twins.unchanged("bestStride()", Scenes::onTheWay, x -> x.bestStride(0, 0, 63));
        Twins.unchanged("bestMap()", Scenes::onTheWay, x -> x.bestMap(0) + x.bestMap(1));
        Twins.unchanged("clashes()", Scenes::onTheWay, x -> x.clashes(0, 2) + x.clashes(2, 1));
        Twins.unchanged("untilDone() of none", Scenes::empty, StrideBanks::untilDone);
        Twins.unchanged("bestMap() of none", Scenes::empty, x -> x.bestMap(0) + x.bestMap(1));
        Twins.unchanged("untilDone() behind the last cycle", Scenes::late, StrideBanks::untilDone);
        Twins.unchanged("bestMap() behind the last cycle", Scenes::late, x -> x.bestMap(1));
    }
}
