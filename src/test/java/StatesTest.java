/** Promises 21 to 23: undo, and saved states. */
public final class StatesTest {
    private static final int BAD_VALUE = Due.BAD_VALUE, NOT_POSSIBLE = Due.NOT_POSSIBLE, NONE = Due.NONE;

    public static void main(String[] args) {
        promise21UndoOfEachChange();
        promise21UndoOfRun();
        promise21AtMostSixStates();
        promise21UndoLeavesPadAndSlots();
        promise21ErrorsAreNotRecorded();
        promise21OwnersComeBack();
        promise22Save();
        promise23RestoreChecks();
        promise23Restore();
        promise23RestoreIsAChange();
        Due.end();
    }

    private static void promise21UndoOfEachChange() {
        StrideBanks x = new StrideBanks();
        Due.is("undo() of nothing", x.undo(), NOT_POSSIBLE);
        x.add(0, 1, 5);
        Due.is("undo() of add", x.undo(), 0);
        Due.is("no stream", x.count(5), 0);
        Due.is("undo() again", x.undo(), NOT_POSSIBLE);
        x.add(0, 1, 5);
        x.stride(0, 3);
        Due.is("undo() of stride", x.undo(), 1);
        Due.is("stride", x.stream(0, 1), 1);
        Due.putAll(x, "9+9*9;8+8*8");
        x.read();
        Due.is("undo() of read", x.undo(), 1);
        Due.is("one stream", x.count(5), 1);
        Due.is("the pad is not put back", x.count(12), 0);
        x.add(7, 2, 6);
        // 9 waits from the cycle 1 on for the bank 1.
        x.run(4);
        x.drop(0);
        Due.stream("dropped", x, 0, 7, 2, 6, 5, 9);
        Due.is("undo() of drop", x.undo(), 3);
        Due.stream("there again", x, 0, 0, 1, 5, 1, 4);
        Due.stream("there again", x, 1, 7, 2, 6, 5, 9);
        x.reset();
        Due.is("undo() of reset", x.undo(), 3);
        Due.stream("on its way again", x, 0, 0, 1, 5, 1, 4);
        Due.is("cycles", x.count(4), 4);
        x.set(0, 3);
        Due.is("undo() of set", x.undo(), 3);
        Due.stream("on its way again", x, 0, 0, 1, 5, 1, 4);
        Due.counts("settings", x, 8, 4, 0, 0, 4, 2);
    }

    private static void promise21UndoOfRun() {
        StrideBanks x = new StrideBanks();
        x.add(0, 8, 3);
        x.add(0, 1, 3);
        x.run(2);
        Due.stream("cycles 0 and 1", x, 0, 0, 8, 3, 2, 8, 1, 0, NONE, 1);
        Due.stream("cycles 0 and 1", x, 1, 0, 1, 3, 3, 0, 2, 2, NONE, 3);
        Due.bank("cycles 0 and 1", x, 0, 2, 1, 3, 3);
        x.run(20);
        Due.is("all done", x.count(6), 0);
        Due.is("undo() of run", x.undo(), 3);
        Due.stream("cycles 0 and 1", x, 0, 0, 8, 3, 2, 8, 1, 0, NONE, 1);
        Due.stream("cycles 0 and 1", x, 1, 0, 1, 3, 3, 0, 2, 2, NONE, 3);
        Due.bank("cycles 0 and 1", x, 0, 2, 1, 3, 3);
        Due.is("cycles", x.count(4), 2);
        Due.is("goes on as before", x.run(20), 5);
    }

    private static void promise21AtMostSixStates() {
        StrideBanks x = new StrideBanks();
        int[] recorded = {1, 2, 3, 4, 5, 6, 6, 6};
        for (int i = 0; i < recorded.length; i++) {
            x.run(i + 1);
            Due.is("recorded", x.count(13), recorded[i]);
        }
        int[] cycles = {28, 21, 15, 10, 6, 3};
        for (int i = 0; i < cycles.length; i++) {
            Due.is("undo()", x.undo(), 5 - i);
            Due.is("cycles", x.count(4), cycles[i]);
        }
        Due.is("the oldest two are gone", x.undo(), NOT_POSSIBLE);
        Due.is("cycles", x.count(4), 3);
        x.run(100);
        Due.is("recorded anew", x.count(13), 1);
        Due.is("undo()", x.undo(), 0);
        Due.is("cycles", x.count(4), 3);
    }

    private static void promise21UndoLeavesPadAndSlots() {
        StrideBanks x = new StrideBanks();
        x.run(5);
        Due.putAll(x, "1+1*1");
        x.save(0);
        Due.is("undo()", x.undo(), 0);
        Due.is("the pad stays", x.count(12), 5);
        Due.is("restore(0)", x.restore(0), 5);
        Due.is("undo() of restore", x.undo(), 0);
        Due.is("cycles", x.count(4), 0);
        Due.is("the slot is kept", x.restore(0), 5);
    }

    private static void promise21ErrorsAreNotRecorded() {
        StrideBanks x = new StrideBanks();
        x.set(0, 1);
        x.add(0, 0, 0);
        x.read();
        x.drop(0);
        x.stride(0, 0);
        x.run(0);
        x.restore(0);
        x.restore(2);
        x.save(2);
        x.save(0);
        x.put(0);
        Due.is("nothing is recorded", x.count(13), 0);
        Due.is("undo()", x.undo(), NOT_POSSIBLE);
        x.reset();
        Due.is("a change by which nothing is different", x.count(13), 1);
    }

    private static void promise21OwnersComeBack() {
        StrideBanks x = new StrideBanks();
        x.add(9, 0, 2);
        x.add(0, 0, 5);
        x.run(1);
        x.drop(0);
        x.drop(0);
        x.undo();
        x.run(1);
        Due.stream("its own stall", x, 0, 0, 0, 5, 4, 0, 1, 0, NONE);
        x.undo();
        x.undo();
        x.run(1);
        Due.stream("its own stall", x, 0, 9, 0, 2, 1, 9, 1, 0, NONE);
        Due.stream("its own stall", x, 1, 0, 0, 5, 4, 0, 1, 0, NONE);
    }

    private static void promise22Save() {
        StrideBanks x = new StrideBanks();
        Due.is("save(-1)", x.save(-1), BAD_VALUE);
        Due.is("save(2)", x.save(2), BAD_VALUE);
        Due.is("save(MAX)", x.save(Integer.MAX_VALUE), BAD_VALUE);
        Due.is("save(0)", x.save(0), 0);
        x.run(7);
        Due.is("save(1)", x.save(1), 7);
        x.run(2);
        Due.is("save(1) again", x.save(1), 9);
        x.run(4);
        Due.is("restore(1): what was saved last", x.restore(1), 9);
        Due.is("restore(0)", x.restore(0), 0);
        Due.is("no change is recorded by save", x.count(13), 5);
    }

    private static void promise23RestoreChecks() {
        StrideBanks x = new StrideBanks();
        Due.is("restore(-1)", x.restore(-1), BAD_VALUE);
        Due.is("restore(2)", x.restore(2), BAD_VALUE);
        Due.is("restore(MIN)", x.restore(Integer.MIN_VALUE), BAD_VALUE);
        Due.is("restore(0)", x.restore(0), NOT_POSSIBLE);
        x.save(1);
        Due.is("restore(0)", x.restore(0), NOT_POSSIBLE);
        Due.is("restore(1)", x.restore(1), 0);
    }

    private static void promise23Restore() {
        StrideBanks x = new StrideBanks();
        x.set(0, 4);
        x.set(3, 1);
        x.add(1, 4, 3);
        x.add(1, 1, 3);
        x.run(2);
        x.save(0);
        Due.putAll(x, "1+1*1");
        x.set(0, 16);
        x.drop(0);
        x.stride(0, 5);
        x.run(50);
        Due.is("restore(0)", x.restore(0), 2);
        Due.counts("restored", x, 4, 4, 0, 1, 2, 2, 5, 1, 3, 2, 1, 3, 5, 6);
        Due.stream("restored", x, 0, 1, 4, 3, 2, 5, 1, 0, NONE, 1);
        Due.stream("restored", x, 1, 1, 1, 3, 3, 1, 2, 2, NONE, 3);
        Due.bank("restored", x, 1, 2, 1, 3, 3);
        Due.is("run(3)", x.run(3), 1);
        Due.stream("its turn at cycle 4", x, 0, 1, 4, 3, 1, 9, 3, 0, NONE);
        Due.is("the slot keeps it", x.restore(0), 2);
        Due.stream("restored", x, 0, 1, 4, 3, 2, 5, 1, 0, NONE, 1);
    }

    private static void promise23RestoreIsAChange() {
        StrideBanks x = new StrideBanks();
        x.add(3, 3, 3);
        x.save(0);
        x.save(1);
        x.run(2);
        Due.is("restore(0)", x.restore(0), 0);
        Due.is("recorded", x.count(13), 3);
        Due.is("restore(1)", x.restore(1), 0);
        Due.is("recorded", x.count(13), 4);
        Due.is("undo()", x.undo(), 3);
        Due.is("undo()", x.undo(), 2);
        Due.is("cycles", x.count(4), 2);
        Due.is("words left", x.stream(0, 3), 1);
        Due.is("undo()", x.undo(), 1);
        Due.is("undo()", x.undo(), 0);
        Due.is("the slot is not undone", x.restore(0), 0);
        Due.is("its stream", x.count(5), 1);
    }
}
