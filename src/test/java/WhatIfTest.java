/** Promises 13 to 17: what if. */
public final class WhatIfTest {
    private static final int NO_SUCH = Due.NO_SUCH, BAD_VALUE = Due.BAD_VALUE;

    public static void main(String[] args) {
        promise13UntilDone();
        promise13UntilDoneAtTheMost();
        promise14AloneChecks();
        promise14Alone();
        promise15BestStrideChecks();
        promise15BestStride();
        promise16BestMap();
        promise16BestMapBeginsAnew();
        promise17ClashesChecks();
        promise17Clashes();
        promise17ClashesByTurns();
        Due.end();
    }

    private static void promise13UntilDone() {
        StrideBanks x = new StrideBanks();
        Due.is("untilDone() without streams", x.untilDone(), 0);
        x.add(0, 8, 3);
        Due.is("cycles 0, 4 and 8", x.untilDone(), 9);
        x.run(2);
        Due.is("two cycles on", x.untilDone(), 7);
        x.run(6);
        Due.is("one is left", x.untilDone(), 1);
        x.run(1);
        Due.is("done", x.untilDone(), 0);
        x.add(0, 8, 1);
        Due.is("the bank is busy for three cycles still", x.untilDone(), 4);
        Due.is("run(3)", x.run(3), 0);
        Due.is("run(1)", x.run(1), 1);

        StrideBanks y = new StrideBanks();
        y.set(3, 1);
        y.set(1, 1);
        y.add(0, 0, 1);
        y.add(0, 1, 2);
        Due.is("0 at cycle 0, 1 at 1 and 2", y.untilDone(), 3);
        y.run(1);
        Due.is("untilDone() from cycle 1 on", y.untilDone(), 2);
    }

    private static void promise13UntilDoneAtTheMost() {
        StrideBanks x = new StrideBanks();
        x.set(1, 12);
        for (int i = 0; i < 4; i++) {
            x.add(1, 0, 200);
        }
        Due.is("the most cycles", x.untilDone(), 799 * 12 + 1);
        Due.is("bestMap(1)", x.bestMap(1), 799 * 12 + 1);
    }

    private static void promise14AloneChecks() {
        StrideBanks x = new StrideBanks();
        Due.is("alone(0, 1024) of none", x.alone(0, 1024), NO_SUCH);
        x.add(0, 1, 5);
        Due.is("alone(1, 1)", x.alone(1, 1), NO_SUCH);
        Due.is("alone(-1, 1)", x.alone(-1, 1), NO_SUCH);
        Due.is("alone(0, -1)", x.alone(0, -1), BAD_VALUE);
        Due.is("alone(0, 1024)", x.alone(0, 1024), BAD_VALUE);
        Due.is("alone(0, 1023)", x.alone(0, 1023), 5);
    }

    private static void promise14Alone() {
        StrideBanks x = new StrideBanks();
        x.add(0, 1, 5);
        x.add(0, 0, 9);
        Due.is("stride 1", x.alone(0, 1), 5);
        Due.is("stride 0", x.alone(0, 0), 17);
        Due.is("stride 4: cycles 0, 1, 4, 5, 8", x.alone(0, 4), 9);
        Due.is("stride 2: cycles 0 to 4", x.alone(0, 2), 5);
        x.run(3);
        Due.is("from its start on, all banks free", x.alone(0, 4), 9);
        x.set(1, 1);
        Due.is("by the settings of now", x.alone(0, 0), 5);
        x.set(1, 4);
        x.set(2, 1);
        Due.is("map 1: banks 0, 1, 2, 3, 4", x.alone(0, 8), 5);
        x.drop(0);
        x.drop(0);
        x.add(4095, 9, 2);
        x.set(2, 0);
        Due.is("behind 4095 from 0 on: banks 7 and 7", x.alone(0, 8), 5);
        x.set(0, 7);
        x.set(1, 4);
        Due.is("4095 and 4 less: banks 0 and 0", x.alone(0, 1), 5);
        Due.is("4095 and 6: banks 0 and 6", x.alone(0, 7), 2);
    }

    private static void promise15BestStrideChecks() {
        StrideBanks x = new StrideBanks();
        Due.is("bestStride(0, -1, 0) of none", x.bestStride(0, -1, 0), NO_SUCH);
        x.add(0, 1, 5);
        Due.is("bestStride(1, 0, 1)", x.bestStride(1, 0, 1), NO_SUCH);
        Due.is("bestStride(-1, 0, 1)", x.bestStride(-1, 0, 1), NO_SUCH);
        Due.is("bestStride(0, -1, 0)", x.bestStride(0, -1, 0), BAD_VALUE);
        Due.is("bestStride(0, 1024, 1024)", x.bestStride(0, 1024, 1024), BAD_VALUE);
        Due.is("bestStride(0, 1000, 1024)", x.bestStride(0, 1000, 1024), BAD_VALUE);
        Due.is("bestStride(0, 5, 4)", x.bestStride(0, 5, 4), BAD_VALUE);
        Due.is("bestStride(0, 0, 64)", x.bestStride(0, 0, 64), BAD_VALUE);
        Due.is("bestStride(0, MAX, MIN)", x.bestStride(0, Integer.MAX_VALUE, Integer.MIN_VALUE), BAD_VALUE);
        Due.is("bestStride(0, 0, MAX)", x.bestStride(0, 0, Integer.MAX_VALUE), BAD_VALUE);
        Due.is("bestStride(0, 0, 63)", x.bestStride(0, 0, 63), 1);
        Due.is("bestStride(0, 960, 1023)", x.bestStride(0, 960, 1023), 961);
        Due.is("bestStride(0, 1023, 1023)", x.bestStride(0, 1023, 1023), 1023);
    }

    private static void promise15BestStride() {
        StrideBanks x = new StrideBanks();
        x.add(0, 5, 20);
        Due.is("of several the least", x.bestStride(0, 4, 40), 5);
        Due.is("one alone", x.bestStride(0, 8, 8), 8);
        Due.is("4 ahead of 8", x.bestStride(0, 4, 4), 4);
        x.set(0, 4);
        Due.is("2 is worse than 3", x.bestStride(0, 2, 3), 3);
        Due.is("the last one", x.bestStride(0, 0, 1), 1);
        Due.is("the first one", x.bestStride(0, 3, 4), 3);
        x.set(1, 12);
        x.set(0, 16);
        Due.is("12 cycles want twelve banks: 2 meets eight only", x.bestStride(0, 2, 4), 3);
        x.stride(0, 7);
        Due.is("whatever its own stride is", x.bestStride(0, 2, 4), 3);
    }

    private static void promise16BestMap() {
        StrideBanks x = new StrideBanks();
        Due.is("bestMap(-1)", x.bestMap(-1), BAD_VALUE);
        Due.is("bestMap(2)", x.bestMap(2), BAD_VALUE);
        Due.is("bestMap(0) without streams", x.bestMap(0), 0);
        Due.is("bestMap(1) without streams", x.bestMap(1), 0);
        x.add(0, 1, 8);
        Due.is("map 0 and map 1 and map 2 the same", x.bestMap(0), 0);
        Due.is("cycles", x.bestMap(1), 8);
        x.stride(0, 8);
        Due.is("map 1: a bank each", x.bestMap(0), 1);
        Due.is("cycles", x.bestMap(1), 8);
        x.set(2, 1);
        Due.is("whatever the map is", x.bestMap(0), 1);
        x.set(2, 0);
        x.set(0, 7);
        x.stride(0, 1);
        x.set(0, 6);
        x.stride(0, 65);
        Due.is("65 by 6 is 5: map 0", x.bestMap(0), 0);
        x.stride(0, 36);
        Due.is("36 by 6 is 0, 42 by 6 is 0, 36 by 5 is 1", x.bestMap(0), 2);
        Due.is("five banks", x.bestMap(1), 8);
        Due.is("the map is as it was", x.count(2), 0);
    }

    private static void promise16BestMapBeginsAnew() {
        StrideBanks x = new StrideBanks();
        x.set(1, 1);
        x.set(3, 1);
        x.add(0, 1, 2);
        x.add(0, 8, 2);
        Due.is("0, then 1 at cycle 1 by its turn", x.bestMap(1), 3);
        x.run(2);
        Due.is("begun anew", x.bestMap(1), 3);
        x.run(5);
        Due.is("begun anew, though all are done", x.bestMap(1), 3);
        x.add(0, 0, 9);
        x.drop(0);
        x.drop(0);
        x.set(1, 4);
        x.run(3);
        x.stride(0, 1);
        Due.is("with the strides of now, banks free", x.bestMap(1), 9);
    }

    private static void promise17ClashesChecks() {
        StrideBanks x = new StrideBanks();
        Due.is("clashes(0, 0) of none", x.clashes(0, 0), NO_SUCH);
        x.add(0, 0, 1);
        x.add(0, 0, 1);
        Due.is("clashes(0, 2)", x.clashes(0, 2), NO_SUCH);
        Due.is("clashes(2, 0)", x.clashes(2, 0), NO_SUCH);
        Due.is("clashes(-1, 0)", x.clashes(-1, 0), NO_SUCH);
        Due.is("clashes(0, -1)", x.clashes(0, -1), NO_SUCH);
        Due.is("clashes(5, 5)", x.clashes(5, 5), NO_SUCH);
        Due.is("clashes(1, 1)", x.clashes(1, 1), BAD_VALUE);
        Due.is("clashes(0, 1)", x.clashes(0, 1), 4);
    }

    private static void promise17Clashes() {
        StrideBanks x = new StrideBanks();
        x.add(0, 0, 2);
        x.add(1, 0, 50);
        x.add(8, 8, 1);
        x.add(3, 1, 3);
        // 0 at the cycles 0 and 4, 2 waits from 0 to 7: stalls of 0 at 1 to 3 are its own.
        Due.is("clashes(0, 2)", x.clashes(0, 2), 8);
        Due.is("clashes(2, 0)", x.clashes(2, 0), 8);
        Due.is("clashes(0, 1)", x.clashes(0, 1), 0);
        Due.is("clashes(1, 2)", x.clashes(1, 2), 0);
        x.run(7);
        Due.is("begun anew", x.clashes(2, 0), 8);
        x.stride(0, 3);
        // 0 at the cycles 0 and 1 in banks 0 and 3, 2 waits to 3; 3 at 0 in bank 3: 0 waits to 3.
        Due.is("with the stride of now", x.clashes(0, 2), 4);
        Due.is("the lower one's clashes", x.clashes(3, 0), 3);
    }

    private static void promise17ClashesByTurns() {
        StrideBanks x = new StrideBanks();
        x.set(1, 1);
        x.add(9, 9, 9);
        x.add(0, 0, 1);
        x.add(0, 0, 3);
        Due.is("fixed: 2 waits once", x.clashes(1, 2), 1);
        x.set(3, 1);
        Due.is("rotating: 2 waits at cycle 0", x.clashes(1, 2), 1);
        x.drop(1);
        x.add(0, 0, 3);
        // Cycle 0: 1, 1: 2, 2: 1, 3: 2, 4: 1, 5: 2; the other one waits in each but the last.
        Due.is("rotating by the two alone", x.clashes(2, 1), 5);
        x.set(3, 0);
        Due.is("fixed: 2 waits thrice", x.clashes(2, 1), 3);
    }
}
