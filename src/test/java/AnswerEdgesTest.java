/** The boundary cases of promises 9 to 12, a test for each sentence; the sentence stands above its test. */
public final class AnswerEdgesTest {
    private static final int NO_SUCH = Due.NO_SUCH, BAD_VALUE = Due.BAD_VALUE, NONE = Due.NONE;
    private static final int MAX = Integer.MAX_VALUE, MIN = Integer.MIN_VALUE;
    private static final int[] PRIMES = {0, 0, 2, 3, 3, 5, 5, 7, 7, 7, 7, 11, 11, 13, 13, 13, 13};

    public static void main(String[] args) {
        bankOfAnAddressOutOfRange();
        bankOfTheFirstAndTheLastAddress();
        bankOfByMap0GoesRound();
        bankOfByMap1GoesRound();
        bankOfByMap2NeverUsesTheBanksAbove();
        streamOfNoSuchStream();
        streamOfWhatIsOutOfRange();
        streamOfWhatIsOutOfRangeOfNoSuchStream();
        streamTellsNoneOfItsNextWord();
        streamTellsNoneOfItsEnd();
        streamThatMeetsTheFewestBanks();
        streamThatMeetsTheMostBanks();
        streamThatMeetsBanksAcrossTheLastAddress();
        streamMeetsBanksFromItsStartOn();
        bankOfNoSuchBank();
        bankOfWhatIsOutOfRange();
        bankOfWhatIsOutOfRangeOfNoSuchBank();
        bankOfTheFewestAndTheMostBanks();
        bankIsNeverBusyForLessThan0();
        bankHoldsNoWords();
        bankHoldsTheMostWords();
        bankHoldsWordsAcrossTheLastAddress();
        countOfWhatIsOutOfRange();
        countOfTheMostWords();
        countOfRequestsOfDroppedStreams();
        countOfNoBusyBanksAndOfAll();
        countOfTheGreatestPrime();
        countOfTheEmptyAndTheFullPad();
        countOfTheEmptyAndTheFullHistory();
        answersChangeNothing();
        Due.end();
    }

    /** Promise 9: "BAD_VALUE if address is out of range". */
    private static void bankOfAnAddressOutOfRange() {
        for (int address : new int[] {-1, 4096, MAX, MIN}) {
            Twins.refused("bankOf(" + address + ")", Scenes::onTheWay, x -> x.bankOf(address), BAD_VALUE);
        }
    }

    /** Promise 9: "address: 0 to 4095", by each map and for each number of banks. */
    private static void bankOfTheFirstAndTheLastAddress() {
        for (int banks = 2; banks <= 16; banks++) {
            int[] last = {4095 % banks, (4095 + 4095 / banks) % banks, 4095 % PRIMES[banks]};
            StrideBanks x = new StrideBanks();
            x.set(StrideBanks.BANKS, banks);
            for (int map = 0; map < 3; map++) {
                x.set(StrideBanks.MAP, map);
                Due.is(banks + " banks, map " + map + ": bankOf(0)", x.bankOf(0), 0);
                Due.is(banks + " banks, map " + map + ": bankOf(4095)", x.bankOf(4095), last[map]);
            }
        }
    }

    /** Maps: "by the map 0 the one that is left of a by BANKS". */
    private static void bankOfByMap0GoesRound() {
        for (int banks = 2; banks <= 16; banks++) {
            StrideBanks x = new StrideBanks();
            x.set(StrideBanks.BANKS, banks);
            String when = banks + " banks: ";
            Due.is(when + "the last one", x.bankOf(banks - 1), banks - 1);
            Due.is(when + "the first one again", x.bankOf(banks), 0);
            Due.is(when + "the last one again", x.bankOf(banks * banks - 1), banks - 1);
            Due.is(when + "the first one again", x.bankOf(banks * banks), 0);
        }
    }

    /** Maps: "by the map 1 the one that is left of (a and a / BANKS, together) by BANKS". */
    private static void bankOfByMap1GoesRound() {
        for (int banks = 2; banks <= 16; banks++) {
            StrideBanks x = new StrideBanks();
            x.set(StrideBanks.BANKS, banks);
            x.set(StrideBanks.MAP, 1);
            String when = banks + " banks: ";
            Due.is(when + "the last one of row 0", x.bankOf(banks - 1), banks - 1);
            Due.is(when + "row 1 begins with 1", x.bankOf(banks), 1);
            Due.is(when + "the last one of row 1", x.bankOf(2 * banks - 1), 0);
            Due.is(when + "the last row begins with the last one", x.bankOf(banks * (banks - 1)), banks - 1);
            Due.is(when + "its last one", x.bankOf(banks * banks - 1), banks - 2);
            Due.is(when + "as many rows as banks: 0 again", x.bankOf(banks * banks), 0);
        }
    }

    /** Maps: "by the greatest prime number that is not above BANKS (so that the banks above that are never used)". */
    private static void bankOfByMap2NeverUsesTheBanksAbove() {
        for (int banks = 2; banks <= 16; banks++) {
            int prime = PRIMES[banks];
            StrideBanks x = new StrideBanks();
            x.set(StrideBanks.BANKS, banks);
            x.set(StrideBanks.MAP, 2);
            String when = banks + " banks: ";
            Due.is(when + "the last one", x.bankOf(prime - 1), prime - 1);
            Due.is(when + "the first one again", x.bankOf(prime), 0);
            x.add(0, 1, 200);
            Due.is(when + "as many as it meets", x.stream(0, 8), prime);
            for (int bank = 0; bank < banks; bank++) {
                Due.is(when + "words in " + bank, x.bank(bank, 3) > 0 ? 1 : 0, bank < prime ? 1 : 0);
            }
            x.run(500);
            for (int bank = prime; bank < banks; bank++) {
                Due.bank(when + "there, but never used", x, bank, 0, 0, 0, 0);
            }
        }
    }

    /** Promise 10: "NO_SUCH if there is no such stream". */
    private static void streamOfNoSuchStream() {
        for (int stream : new int[] {-1, 3, 4, MAX, MIN}) {
            for (int what = 0; what < 9; what++) {
                int asked = what;
                Due.is("stream(" + stream + ", " + what + ")", Scenes.onTheWay().stream(stream, what), NO_SUCH);
                if (what % 4 == 0) {
                    Twins.unchanged("stream(" + stream + ", " + what + ")", Scenes::onTheWay,
                        x -> x.stream(stream, asked));
                }
            }
        }
        Twins.refused("stream(0, 0) of none", Scenes::empty, x -> x.stream(0, 0), NO_SUCH);
        Twins.refused("stream(4, 0) of four", Scenes::full, x -> x.stream(4, 0), NO_SUCH);
    }

    /** Promise 10: "BAD_VALUE if what is out of range". */
    private static void streamOfWhatIsOutOfRange() {
        for (int what : new int[] {-1, 9, MAX, MIN}) {
            for (int stream : new int[] {0, 1, 2}) {
                Twins.refused("stream(" + stream + ", " + what + ")", Scenes::onTheWay,
                    x -> x.stream(stream, what), BAD_VALUE);
            }
        }
    }

    /** Conventions: NO_SUCH ahead of BAD_VALUE. */
    private static void streamOfWhatIsOutOfRangeOfNoSuchStream() {
        Twins.refused("stream(3, 9)", Scenes::onTheWay, x -> x.stream(3, 9), NO_SUCH);
        Twins.refused("stream(-1, -1)", Scenes::onTheWay, x -> x.stream(-1, -1), NO_SUCH);
    }

    /** Promise 10: "4 the address of its next word (NONE if it is done)"; conventions: NONE only if no error applies. */
    private static void streamTellsNoneOfItsNextWord() {
        StrideBanks x = Scenes.of(4095, 1, 2);
        Due.is("ahead of the first", x.stream(0, 4), 4095);
        x.run(1);
        Due.is("ahead of the last", x.stream(0, 4), 0);
        x.run(1);
        Due.is("done", x.stream(0, 4), NONE);
        Due.is("no such stream", x.stream(1, 4), NO_SUCH);
        x.reset();
        Due.is("begun anew", x.stream(0, 4), 4095);
    }

    /** Promise 10: "7 the cycle in which it ended (NONE if it is not done)". */
    private static void streamTellsNoneOfItsEnd() {
        StrideBanks x = Scenes.of(0, 0, 2);
        Due.is("ahead of the first", x.stream(0, 7), NONE);
        x.run(4);
        Due.is("ahead of the last", x.stream(0, 7), NONE);
        x.run(1);
        Due.is("done", x.stream(0, 7), 4);
        x.run(3);
        Due.is("done still", x.stream(0, 7), 4);
        Due.is("no such stream", x.stream(1, 7), NO_SUCH);
        x.reset();
        Due.is("begun anew", x.stream(0, 7), NONE);
    }

    /** Promise 10: "8 how many banks it meets": one, if it has one word, or no stride, or one that falls on one bank. */
    private static void streamThatMeetsTheFewestBanks() {
        StrideBanks x = Scenes.of(5, 7, 1, 5, 0, 200, 5, 8, 200, 5, 7, 2);
        Due.is("one word", x.stream(0, 8), 1);
        Due.is("stride 0", x.stream(1, 8), 1);
        Due.is("stride 8 of 8 banks", x.stream(2, 8), 1);
        Due.is("two words", x.stream(3, 8), 2);
    }

    /** Promise 10: "8 how many banks it meets": all of them, but those that the map 2 never uses. */
    private static void streamThatMeetsTheMostBanks() {
        StrideBanks x = new StrideBanks();
        x.set(StrideBanks.BANKS, 16);
        x.add(0, 1, 15);
        x.add(0, 1, 16);
        x.add(0, 1, 200);
        Due.is("15 words", x.stream(0, 8), 15);
        Due.is("16 words", x.stream(1, 8), 16);
        Due.is("200 words", x.stream(2, 8), 16);
        x.set(StrideBanks.MAP, 2);
        Due.is("13 is prime", x.stream(2, 8), 13);
    }

    /** Promise 10, 8 and Streams: "behind 4095 from 0 on". */
    private static void streamThatMeetsBanksAcrossTheLastAddress() {
        StrideBanks x = new StrideBanks();
        x.set(StrideBanks.BANKS, 7);
        // 4095 is left with 0 by 7; were it not for the end at 4095, 4096 would be in the bank 1 and 4097 in 2.
        x.add(4095, 1, 2);
        x.add(4094, 1, 4);
        Due.is("4095 and 0: the bank 0 twice", x.stream(0, 8), 1);
        Due.is("4094, 4095, 0 and 1: the banks 6, 0, 0 and 1", x.stream(1, 8), 3);
    }

    /** Promise 10: "if all its words were asked for from its start on, with the stride of now". */
    private static void streamMeetsBanksFromItsStartOn() {
        StrideBanks x = Scenes.of(0, 1, 3);
        x.run(1);
        Due.is("on its way", x.stream(0, 8), 3);
        x.run(9);
        Due.is("done", x.stream(0, 8), 3);
        x.stride(0, 8);
        Due.is("with the stride of now", x.stream(0, 8), 1);
    }

    /** Promise 11: "NO_SUCH if bank is not 0 to BANKS less 1". */
    private static void bankOfNoSuchBank() {
        for (int bank : new int[] {-1, 6, 7, 15, 16, MAX, MIN}) {
            for (int what = 0; what < 4; what++) {
                Due.is("bank(" + bank + ", " + what + ")", Scenes.onTheWay().bank(bank, what), NO_SUCH);
            }
            Twins.unchanged("bank(" + bank + ", 3)", Scenes::onTheWay, x -> x.bank(bank, 3));
        }
    }

    /** Promise 11: "BAD_VALUE if what is out of range". */
    private static void bankOfWhatIsOutOfRange() {
        for (int what : new int[] {-1, 4, MAX, MIN}) {
            for (int bank : new int[] {0, 5}) {
                Twins.refused("bank(" + bank + ", " + what + ")", Scenes::onTheWay,
                    x -> x.bank(bank, what), BAD_VALUE);
            }
        }
    }

    /** Conventions: NO_SUCH ahead of BAD_VALUE. */
    private static void bankOfWhatIsOutOfRangeOfNoSuchBank() {
        Twins.refused("bank(6, 4)", Scenes::onTheWay, x -> x.bank(6, 4), NO_SUCH);
        Twins.refused("bank(-1, -1)", Scenes::onTheWay, x -> x.bank(-1, -1), NO_SUCH);
    }

    /** Promise 11: "0 to BANKS less 1" for the fewest and the most banks. */
    private static void bankOfTheFewestAndTheMostBanks() {
        for (int banks : new int[] {2, 16}) {
            StrideBanks x = new StrideBanks();
            x.set(StrideBanks.BANKS, banks);
            x.add(banks - 1, 0, 3);
            x.run(2);
            Due.bank(banks + " banks, the first one", x, 0, 0, 0, 0, 0);
            Due.bank(banks + " banks, the last one", x, banks - 1, 2, 1, 1, 2);
            Due.is(banks + " banks, one more", x.bank(banks, 0), NO_SUCH);
        }
    }

    /** Promise 11: "0 for how many cycles it is busy still, from the next one on": from BUSY less 1 down to 0. */
    private static void bankIsNeverBusyForLessThan0() {
        StrideBanks x = new StrideBanks();
        x.set(StrideBanks.BUSY, 12);
        x.add(0, 0, 1);
        for (int cycle = 0; cycle < 15; cycle++) {
            x.run(1);
            Due.is("behind the cycle " + cycle, x.bank(0, 0), Math.max(0, 11 - cycle));
        }
        x.run(500);
        Due.is("long after", x.bank(0, 0), 0);
    }

    /** Promise 11: "3 words left of all streams that are in it": none, of no streams, and of those that are done. */
    private static void bankHoldsNoWords() {
        StrideBanks x = new StrideBanks();
        Due.is("no streams", x.bank(1, 3), 0);
        x.add(1, 0, 1);
        Due.is("one word", x.bank(1, 3), 1);
        x.run(1);
        Due.is("done", x.bank(1, 3), 0);
    }

    /** Promise 11, 3: four streams, all of whose words are in one bank. */
    private static void bankHoldsTheMostWords() {
        StrideBanks x = Scenes.of(3, 0, 200, 3, 8, 200, 11, 16, 200, 4091, 1016, 200);
        Due.is("all words", x.bank(3, 3), 800);
        x.run(1);
        Due.is("but one", x.bank(3, 3), 799);
        for (int bank = 0; bank < 8; bank++) {
            Due.is("bank " + bank, x.bank(bank, 3), bank == 3 ? 799 : 0);
        }
    }

    /** Promise 11, 3 and Streams: "behind 4095 from 0 on". */
    private static void bankHoldsWordsAcrossTheLastAddress() {
        StrideBanks x = new StrideBanks();
        x.set(StrideBanks.BANKS, 7);
        x.add(4094, 1, 4);
        Due.is("4095 and 0", x.bank(0, 3), 2);
        Due.is("1", x.bank(1, 3), 1);
        Due.is("4094", x.bank(6, 3), 1);
        Due.is("not 4097", x.bank(2, 3), 0);
        x.run(2);
        Due.is("0", x.bank(0, 3), 1);
        Due.is("1", x.bank(1, 3), 1);
        Due.is("no more", x.bank(6, 3), 0);
    }

    /** Promise 12: "BAD_VALUE if what is out of range". */
    private static void countOfWhatIsOutOfRange() {
        for (int what : new int[] {-1, 14, MAX, MIN}) {
            Twins.refused("count(" + what + ")", Scenes::onTheWay, x -> x.count(what), BAD_VALUE);
        }
    }

    /** Promise 12: "5 streams, 6 words left of all, 7 requests done so far": none, and as many as there may be. */
    private static void countOfTheMostWords() {
        StrideBanks x = new StrideBanks();
        Due.is("no streams", x.count(5) + x.count(6) + x.count(7), 0);
        x.set(StrideBanks.BANKS, 16);
        x.set(StrideBanks.BUSY, 1);
        for (int i = 0; i < 4; i++) {
            x.add(i, 1, 200);
        }
        Due.is("streams", x.count(5), 4);
        Due.is("words left", x.count(6), 800);
        Due.is("requests done", x.count(7), 0);
        Due.is("run(199)", x.run(199), 796);
        Due.is("words left", x.count(6), 4);
        Due.is("requests done", x.count(7), 796);
        x.run(1);
        Due.is("words left", x.count(6), 0);
        Due.is("requests done", x.count(7), 800);
        Due.is("cycles", x.count(4), 200);
    }

    /** Promise 12: "7 requests done so far by streams that are there, 8 stalls so far of these, 9 clashes among them". */
    private static void countOfRequestsOfDroppedStreams() {
        StrideBanks x = Scenes.of(0, 0, 3, 8, 0, 3, 0, 1, 2);
        x.run(5);
        // 0 at the cycles 0 and 4, with 3 stalls of its own; 1 and 2 with 5 clashes each.
        Due.counts("of three", x, 8, 4, 0, 0, 5, 3, 6, 2, 13, 10);
        x.drop(1);
        Due.counts("of two", x, 8, 4, 0, 0, 5, 2, 3, 2, 8, 5);
        x.drop(0);
        Due.counts("of one", x, 8, 4, 0, 0, 5, 1, 2, 0, 5, 5);
        x.drop(0);
        Due.counts("of none", x, 8, 4, 0, 0, 5, 0, 0, 0, 0, 0, 1);
        Due.bank("the bank's counts stay", x, 0, 3, 2, 13, 0);
    }

    /** Promise 12: "10 banks that are busy in the next cycle": none, and all. */
    private static void countOfNoBusyBanksAndOfAll() {
        StrideBanks x = new StrideBanks();
        x.set(StrideBanks.BANKS, 16);
        x.set(StrideBanks.BUSY, 12);
        Due.is("none", x.count(10), 0);
        x.add(0, 1, 4);
        x.add(4, 1, 4);
        x.add(8, 1, 4);
        x.add(12, 1, 4);
        x.run(4);
        Due.is("all", x.count(10), 16);
        x.run(8);
        Due.is("four are free at the cycle 12", x.count(10), 12);
        x.run(3);
        Due.is("none at the cycle 15", x.count(10), 0);
        StrideBanks y = new StrideBanks();
        y.set(StrideBanks.BUSY, 1);
        y.add(0, 1, 9);
        y.run(1);
        Due.is("busy in its own cycle only", y.count(10), 0);
    }

    /** Promise 12: "11 the greatest prime number that is not above BANKS". */
    private static void countOfTheGreatestPrime() {
        StrideBanks x = new StrideBanks();
        for (int banks = 16; banks >= 2; banks--) {
            x.set(StrideBanks.BANKS, banks);
            Due.is("of " + banks, x.count(11), PRIMES[banks]);
        }
        x.set(StrideBanks.MAP, 2);
        Due.is("whatever the map is", x.count(11), 2);
    }

    /** Promise 12: "12 the length of the pad": 0 to 60. */
    private static void countOfTheEmptyAndTheFullPad() {
        StrideBanks x = new StrideBanks();
        for (int length = 0; length < 60; length++) {
            Due.is("length", x.count(12), length);
            x.put('1');
        }
        Due.is("full", x.count(12), 60);
        x.put('1');
        Due.is("full still", x.count(12), 60);
    }

    /** Promise 12: "13 how many changes can be undone": 0 to 6. */
    private static void countOfTheEmptyAndTheFullHistory() {
        StrideBanks x = new StrideBanks();
        for (int changes = 0; changes < 6; changes++) {
            Due.is("changes", x.count(13), changes);
            x.run(1);
        }
        Due.is("full", x.count(13), 6);
        x.run(1);
        Due.is("full still", x.count(13), 6);
        for (int changes = 5; changes >= 0; changes--) {
            x.undo();
            Due.is("changes", x.count(13), changes);
        }
        x.undo();
        Due.is("none still", x.count(13), 0);
    }

    /** The face: "what there is; nothing changes". */
    private static void answersChangeNothing() {
        Twins.unchanged("bankOf()", Scenes::onTheWay, x -> x.bankOf(4095) + x.bankOf(0));
        for (int what = 0; what < 14; what++) {
            int asked = what;
            Twins.unchanged("count(" + what + ")", Scenes::onTheWay, x -> x.count(asked));
            Twins.unchanged("stream(.., " + what + ")", Scenes::onTheWay,
                x -> x.stream(0, asked) + x.stream(1, asked) + x.stream(2, asked));
            Twins.unchanged("bank(.., " + what + ")", Scenes::onTheWay, x -> x.bank(0, asked) + x.bank(5, asked));
        }
    }
}
