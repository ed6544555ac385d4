/** Promises 9 to 12: what there is. */
public final class AnswersTest {
    private static final int NO_SUCH = Due.NO_SUCH, BAD_VALUE = Due.BAD_VALUE, NONE = Due.NONE;

    /** An object is promised for 512 calls only. */
    private static final int WORDS_OF_AN_OBJECT = 256;

    public static void main(String[] args) {
        promise9BankOfChecks();
        promise9BankOfByTheMaps();
        promise9BankOfEveryWord();
        promise10StreamChecks();
        promise10StreamOnItsWay();
        promise10BanksMet();
        promise11BankChecks();
        promise11BankOnItsWay();
        promise11WordsLeftIn();
        promise12CountChecks();
        promise12Counts();
        promise12BusyBanks();
        promise12GreatestPrime();
        nothingChanges();
        Due.end();
    }

    private static void promise9BankOfChecks() {
        StrideBanks x = new StrideBanks();
        Due.is("bankOf(-1)", x.bankOf(-1), BAD_VALUE);
        Due.is("bankOf(4096)", x.bankOf(4096), BAD_VALUE);
        Due.is("bankOf(MAX)", x.bankOf(Integer.MAX_VALUE), BAD_VALUE);
        Due.is("bankOf(MIN)", x.bankOf(Integer.MIN_VALUE), BAD_VALUE);
        Due.is("bankOf(0)", x.bankOf(0), 0);
        Due.is("bankOf(4095)", x.bankOf(4095), 7);
    }

    private static void promise9BankOfByTheMaps() {
        StrideBanks x = new StrideBanks();
        x.set(0, 6);
        Due.is("map 0: bankOf(5)", x.bankOf(5), 5);
        Due.is("map 0: bankOf(6)", x.bankOf(6), 0);
        x.set(2, 1);
        Due.is("map 1: bankOf(5)", x.bankOf(5), 5);
        Due.is("map 1: bankOf(6)", x.bankOf(6), 1);
        Due.is("map 1: bankOf(35)", x.bankOf(35), 4);
        Due.is("map 1: bankOf(36)", x.bankOf(36), 0);
        x.set(2, 2);
        Due.is("map 2: bankOf(4)", x.bankOf(4), 4);
        Due.is("map 2: bankOf(5)", x.bankOf(5), 0);
        Due.is("map 2: bankOf(4094)", x.bankOf(4094), 4);
        x.set(0, 16);
        Due.is("map 2 of 16: bankOf(12)", x.bankOf(12), 12);
        Due.is("map 2 of 16: bankOf(13)", x.bankOf(13), 0);
        x.set(0, 2);
        Due.is("map 2 of 2: bankOf(3)", x.bankOf(3), 1);
    }

    private static void promise9BankOfEveryWord() {
        for (int banks = 2; banks <= 16; banks++) {
            for (int map = 0; map < 3; map++) {
                for (int first = 0; first < 4096; first += WORDS_OF_AN_OBJECT) {
                    promise9BankOfWords(banks, map, first);
                }
            }
        }
    }

    private static void promise9BankOfWords(int banks, int map, int first) {
        int[] primes = {0, 0, 2, 3, 3, 5, 5, 7, 7, 7, 7, 11, 11, 13, 13, 13, 13};
        StrideBanks x = new StrideBanks();
        x.set(0, banks);
        x.set(2, map);
        for (int address = first; address < first + WORDS_OF_AN_OBJECT; address++) {
            int due = map == 0 ? address % banks
                : map == 1 ? (address + address / banks) % banks : address % primes[banks];
            Due.is("bankOf()", x.bankOf(address), due);
        }
    }

    private static void promise10StreamChecks() {
        StrideBanks x = new StrideBanks();
        Due.is("stream(0, 9) of none", x.stream(0, 9), NO_SUCH);
        x.add(1, 2, 3);
        Due.is("stream(1, 9)", x.stream(1, 9), NO_SUCH);
        Due.is("stream(-1, 0)", x.stream(-1, 0), NO_SUCH);
        Due.is("stream(4, 0)", x.stream(4, 0), NO_SUCH);
        Due.is("stream(MIN, 0)", x.stream(Integer.MIN_VALUE, 0), NO_SUCH);
        Due.is("stream(0, 9)", x.stream(0, 9), BAD_VALUE);
        Due.is("stream(0, -1)", x.stream(0, -1), BAD_VALUE);
        Due.is("stream(0, MAX)", x.stream(0, Integer.MAX_VALUE), BAD_VALUE);
    }

    private static void promise10StreamOnItsWay() {
        StrideBanks x = new StrideBanks();
        x.set(1, 2);
        x.add(6, 1, 2);
        x.add(6, 8, 2);
        Due.stream("ahead", x, 0, 6, 1, 2, 2, 6, 0, 0, NONE, 2);
        Due.stream("ahead", x, 1, 6, 8, 2, 2, 6, 0, 0, NONE, 1);
        x.run(2);
        Due.stream("done at cycle 1", x, 0, 6, 1, 2, 0, NONE, 0, 0, 1, 2);
        Due.stream("hindered by another", x, 1, 6, 8, 2, 2, 6, 2, 2, NONE, 1);
        x.run(1);
        Due.stream("one done", x, 1, 6, 8, 2, 1, 14, 2, 2, NONE, 1);
        x.run(1);
        Due.stream("hindered by itself", x, 1, 6, 8, 2, 1, 14, 3, 2, NONE, 1);
        x.run(9);
        Due.stream("done at cycle 4", x, 1, 6, 8, 2, 0, NONE, 3, 2, 4, 1);
        Due.stream("ended as before", x, 0, 6, 1, 2, 0, NONE, 0, 0, 1, 2);
    }

    private static void promise10BanksMet() {
        StrideBanks x = new StrideBanks();
        x.set(0, 12);
        x.add(4090, 4, 200);
        x.add(0, 4, 2);
        x.add(5, 0, 200);
        x.add(1, 9, 200);
        Due.is("4090 + 4 and, behind 4095, 2 + 4: 10, 2 and 6", x.stream(0, 8), 3);
        Due.is("fewer words than banks", x.stream(1, 8), 2);
        Due.is("stride 0", x.stream(2, 8), 1);
        x.run(3);
        x.stride(3, 1);
        Due.is("with the stride of now", x.stream(3, 8), 12);
        x.set(2, 2);
        Due.is("banks above 11 are never used", x.stream(3, 8), 11);
        x.set(2, 1);
        Due.is("map 1: 0 and 4", x.stream(1, 8), 2);
        x.stride(1, 12);
        Due.is("map 1: 0 and 12 + 1", x.stream(1, 8), 2);
    }

    private static void promise11BankChecks() {
        StrideBanks x = new StrideBanks();
        Due.is("bank(8, 4)", x.bank(8, 4), NO_SUCH);
        Due.is("bank(-1, 0)", x.bank(-1, 0), NO_SUCH);
        Due.is("bank(MAX, 0)", x.bank(Integer.MAX_VALUE, 0), NO_SUCH);
        Due.is("bank(MIN, 0)", x.bank(Integer.MIN_VALUE, 0), NO_SUCH);
        Due.is("bank(7, 4)", x.bank(7, 4), BAD_VALUE);
        Due.is("bank(7, -1)", x.bank(7, -1), BAD_VALUE);
        Due.is("bank(7, 3)", x.bank(7, 3), 0);
        x.set(0, 16);
        Due.is("bank(15, 0)", x.bank(15, 0), 0);
        Due.is("bank(16, 0)", x.bank(16, 0), NO_SUCH);
        x.set(0, 2);
        x.set(2, 2);
        Due.is("bank(1, 0)", x.bank(1, 0), 0);
        Due.is("bank(2, 0)", x.bank(2, 0), NO_SUCH);
        x.set(0, 4);
        Due.is("bank(3, 0): there, but never used", x.bank(3, 0), 0);
    }

    private static void promise11BankOnItsWay() {
        StrideBanks x = new StrideBanks();
        x.set(1, 3);
        x.add(2, 1, 2);
        x.add(3, 0, 2);
        x.run(1);
        Due.bank("cycle 0", x, 2, 2, 1, 0, 0);
        Due.bank("cycle 0", x, 3, 2, 1, 0, 2);
        x.run(1);
        Due.bank("cycle 1", x, 2, 1, 1, 0, 0);
        Due.bank("cycle 1: two stalls", x, 3, 1, 1, 2, 2);
        x.run(2);
        Due.bank("cycle 3", x, 2, 0, 1, 0, 0);
        Due.bank("cycle 3: free, taken and asked again", x, 3, 2, 2, 5, 1);
        x.run(6);
        Due.bank("at the end", x, 3, 0, 3, 7, 0);
    }

    private static void promise11WordsLeftIn() {
        StrideBanks x = new StrideBanks();
        x.add(0, 1, 20);
        x.add(4092, 4, 5);
        Due.is("bank 0: 0, 8, 16 and 0, 8", x.bank(0, 3), 5);
        Due.is("bank 3: 3, 11, 19", x.bank(3, 3), 3);
        Due.is("bank 4: 4, 12 and 4092, 4, 12", x.bank(4, 3), 5);
        Due.is("bank 7: 7, 15", x.bank(7, 3), 2);
        x.run(2);
        Due.is("bank 0: 8, 16 and 0, 8", x.bank(0, 3), 4);
        Due.is("bank 1: 9, 17", x.bank(1, 3), 2);
        x.stride(0, 8);
        Due.is("18 words with the stride of now: 1 + 8", x.bank(1, 3), 18);
        Due.is("none of them here", x.bank(2, 3), 0);
        x.drop(0);
        Due.is("not those of a dropped stream", x.bank(1, 3), 0);
        for (int i = 0; i < 3; i++) {
            x.add(1, 8, 10);
        }
        Due.is("those of four streams", x.bank(1, 3), 30);
    }

    private static void promise12CountChecks() {
        StrideBanks x = new StrideBanks();
        Due.is("count(-1)", x.count(-1), BAD_VALUE);
        Due.is("count(14)", x.count(14), BAD_VALUE);
        Due.is("count(MAX)", x.count(Integer.MAX_VALUE), BAD_VALUE);
        Due.is("count(MIN)", x.count(Integer.MIN_VALUE), BAD_VALUE);
    }

    private static void promise12Counts() {
        StrideBanks x = new StrideBanks();
        x.set(0, 10);
        x.set(1, 5);
        x.set(2, 1);
        x.set(3, 1);
        Due.putAll(x, "what");
        Due.counts("set", x, 10, 5, 1, 1, 0, 0, 0, 0, 0, 0, 0, 7, 4, 4);
        x.add(0, 0, 3);
        x.add(0, 10, 2);
        Due.counts("added", x, 10, 5, 1, 1, 0, 2, 5, 0, 0, 0, 0, 7, 4, 6);
        x.run(2);
        Due.counts("0 at cycle 0", x, 10, 5, 1, 1, 2, 2, 4, 1, 3, 2, 1, 7, 4, 6);
        x.run(4);
        Due.counts("1 at cycle 5, by its turn", x, 10, 5, 1, 1, 6, 2, 3, 2, 10, 6, 1, 7, 4, 6);
        x.wipe();
        x.drop(1);
        Due.counts("of the stream that is there", x, 10, 5, 1, 1, 6, 1, 2, 1, 5, 1, 1, 7, 0, 6);
    }

    private static void promise12BusyBanks() {
        StrideBanks x = new StrideBanks();
        x.add(5, 1, 5);
        int[] due = {1, 2, 3, 3, 3, 2, 1, 0, 0};
        for (int cycle = 0; cycle < due.length; cycle++) {
            x.run(1);
            Due.is("count(10) behind cycle " + cycle, x.count(10), due[cycle]);
        }
    }

    private static void promise12GreatestPrime() {
        StrideBanks x = new StrideBanks();
        for (int banks = 2; banks <= 16; banks++) {
            x.set(0, banks);
            int due = 0;
            for (int number = 2; number <= banks; number++) {
                boolean prime = true;
                for (int part = 2; part < number; part++) {
                    prime &= number % part != 0;
                }
                due = prime ? number : due;
            }
            Due.is("count(11) of " + banks, x.count(11), due);
        }
    }

    private static void nothingChanges() {
        StrideBanks x = new StrideBanks();
        x.add(0, 8, 9);
        x.add(1, 9, 9);
        x.run(5);
        int[] before = new int[14];
        for (int what = 0; what < 14; what++) {
            before[what] = x.count(what);
        }
        x.bankOf(9);
        x.stream(0, 8);
        x.bank(0, 3);
        x.untilDone();
        x.alone(0, 3);
        x.bestStride(1, 0, 63);
        x.bestMap(1);
        x.clashes(0, 1);
        x.fault();
        x.save(0);
        Due.counts("as before", x, before);
        Due.stream("as before", x, 0, 0, 8, 9, 7, 16, 3, 0, NONE, 1);
        Due.stream("as before", x, 1, 1, 9, 9, 4, 46, 0, 0, NONE, 8);
        Due.bank("as before", x, 0, 3, 2, 3, 8);
    }
}
