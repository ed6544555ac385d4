import java.util.function.Consumer;

/** The boundary cases of promises 21 to 23, a test for each sentence; the sentence stands above its test. */
public final class StateEdgesTest {
    private static final int NO_SUCH = Due.NO_SUCH, BAD_VALUE = Due.BAD_VALUE, BAD_TEXT = Due.BAD_TEXT,
        TOO_MANY = Due.TOO_MANY, NOT_POSSIBLE = Due.NOT_POSSIBLE;
    private static final int MAX = Integer.MAX_VALUE, MIN = Integer.MIN_VALUE;

    public static void main(String[] args) {
        undoOfNothing();
        undoOfTheLastOne();
        undoOfEachChange();
        undoLeavesThePad();
        undoLeavesTheSlots();
        undoLeavesTheOlderHistory();
        undoOfSixAtMost();
        historyDropsTheOldest();
        historyIsRefilled();
        historyKeepsChangesByWhichNothingIsDifferent();
        historyKeepsNoErrors();
        historyKeepsNothingElse();
        undoIsNotRecorded();
        undoBehindTheLastCycle();
        saveInNoSuchSlot();
        saveInTheFirstAndTheLastSlot();
        saveOverwrites();
        saveOfAnEmptyStore();
        saveIsNoChange();
        saveKeepsItsState();
        restoreOfNoSuchSlot();
        restoreOfAnEmptySlot();
        restoreOfTheOtherSlot();
        restoreOfWhatWasSavedLast();
        restoreKeepsTheSlot();
        restoreLeavesPadAndHistory();
        restoreOfWhatIsThere();
        restoreBehindTheLastCycle();
        restoreOfFewerAndOfMoreStreams();
        Due.end();
    }

    /** Promise 21: "NOT_POSSIBLE if there is none". */
    private static void undoOfNothing() {
        Twins.refused("undo() of a new store", Scenes::empty, StrideBanks::undo, NOT_POSSIBLE);
        Twins.refused("undo() behind six of them", () -> {
            StrideBanks x = Scenes.onTheWay();
            for (int i = 0; i < 6; i++) {
                x.undo();
            }
            return x;
        }, StrideBanks::undo, NOT_POSSIBLE);
    }

    /** Promise 21: "Returns how many changes can be undone then": 0. */
    private static void undoOfTheLastOne() {
        StrideBanks x = new StrideBanks();
        x.run(1);
        Due.is("undo()", x.undo(), 0);
        Due.is("none", x.count(13), 0);
        Due.is("undo() again", x.undo(), NOT_POSSIBLE);
    }

    /** Promise 21: "everything except the pad, the slots and the history is as it was before it". */
    private static void undoOfEachChange() {
        undone("set(BANKS, 16)", x -> x.set(StrideBanks.BANKS, 16));
        undone("set(BUSY, 1)", x -> x.set(StrideBanks.BUSY, 1));
        undone("set(MAP, 2)", x -> x.set(StrideBanks.MAP, 2));
        undone("set(TURNS, 0)", x -> x.set(StrideBanks.TURNS, 0));
        undone("add()", x -> x.add(4095, 1023, 200));
        undone("read()", x -> {
            Due.putAll(x, "7+7*7");
            x.read();
        });
        undone("drop(0)", x -> x.drop(0));
        undone("drop(1)", x -> x.drop(1));
        undone("drop(2)", x -> x.drop(2));
        undone("stride()", x -> x.stride(0, 1023));
        undone("run(1)", x -> x.run(1));
        undone("run(500)", x -> x.run(500));
        undone("reset()", x -> x.reset());
        undone("restore(0)", x -> x.restore(0));
        undone("restore(1)", x -> x.restore(1));
    }

    /** The scene leaves room for one more state, so that none is lost to the change that is undone. */
    private static void undone(String call, Consumer<StrideBanks> change) {
        Twins.alike("undo() of " + call, () -> {
            StrideBanks x = Scenes.onTheWay();
            x.wipe();
            x.run(1);
            x.undo();
            return x;
        }, x -> {
            change.accept(x);
            Due.is("recorded by " + call, x.count(13), 6);
            Due.is("undo() of " + call, x.undo(), 5);
        });
    }

    /** Promise 21: "except the pad": read() empties it, and undo() doesn't fill it again. */
    private static void undoLeavesThePad() {
        StrideBanks x = Scenes.with("7+7*7");
        x.read();
        Due.is("undo() of read()", x.undo(), 0);
        Due.is("no streams", x.count(5), 0);
        Due.is("the pad is empty", x.count(12), 0);
        x.run(1);
        Due.putAll(x, "8+8*8");
        Due.is("undo() of run()", x.undo(), 0);
        Due.is("the pad stays", x.count(12), 5);
        Due.is("read()", x.read(), 1);
        Due.stream("what was put", x, 0, 8, 8, 8);
    }

    /** Promise 21: "except ... the slots". */
    private static void undoLeavesTheSlots() {
        StrideBanks x = Scenes.of(1, 1, 9);
        x.save(0);
        x.run(2);
        x.save(1);
        Due.is("undo() of run()", x.undo(), 1);
        Due.is("undo() of add()", x.undo(), 0);
        Due.is("restore(1)", x.restore(1), 2);
        Due.is("words left", x.stream(0, 3), 7);
        Due.is("restore(0)", x.restore(0), 0);
        Due.is("words left", x.stream(0, 3), 9);
    }

    /** Promise 21: "except ... the history": the older states are kept, and the latest is gone. */
    private static void undoLeavesTheOlderHistory() {
        StrideBanks x = new StrideBanks();
        x.run(1);
        x.run(2);
        x.run(4);
        Due.is("undo() of run(4)", x.undo(), 2);
        x.run(8);
        Due.is("undo() of run(8)", x.undo(), 2);
        Due.is("cycles", x.count(4), 3);
        Due.is("undo() of run(2)", x.undo(), 1);
        Due.is("cycles", x.count(4), 1);
        Due.is("undo() of run(1)", x.undo(), 0);
        Due.is("cycles", x.count(4), 0);
    }

    /** Promise 21: "A history of at most 6 states is kept". */
    private static void undoOfSixAtMost() {
        for (int changes = 0; changes <= 9; changes++) {
            StrideBanks x = new StrideBanks();
            for (int i = 0; i < changes; i++) {
                x.run(1);
            }
            int kept = Math.min(6, changes);
            Due.is(changes + " changes", x.count(13), kept);
            for (int i = kept - 1; i >= 0; i--) {
                Due.is(changes + " changes: undo()", x.undo(), i);
            }
            Due.is(changes + " changes: undo() of none", x.undo(), NOT_POSSIBLE);
            Due.is(changes + " changes: cycles", x.count(4), changes - kept);
        }
    }

    /** Promise 21: "when one more is recorded, the oldest one is dropped". */
    private static void historyDropsTheOldest() {
        StrideBanks x = new StrideBanks();
        for (int stride = 0; stride < 8; stride++) {
            Due.is("change", stride == 0 ? x.add(5, 0, 1) : x.stride(0, stride), Math.max(0, stride - 1));
        }
        for (int stride = 6; stride >= 1; stride--) {
            Due.is("undo()", x.undo(), stride - 1);
            Due.is("the stride before", x.stream(0, 1), stride);
        }
        Due.is("add() and the first stride() can't be undone", x.undo(), NOT_POSSIBLE);
        Due.is("the stride stays", x.stream(0, 1), 1);
    }

    /** Promise 21: a history that was full, and then used in part, is filled again, more than once. */
    private static void historyIsRefilled() {
        StrideBanks x = new StrideBanks();
        for (int round = 0; round < 3; round++) {
            for (int i = 0; i < 7; i++) {
                x.run(1);
            }
            Due.is("full", x.count(13), 6);
            Due.is("undo()", x.undo(), 5);
            Due.is("undo()", x.undo(), 4);
        }
        Due.is("cycles", x.count(4), 15);
        for (int i = 3; i >= 0; i--) {
            Due.is("undo()", x.undo(), i);
            Due.is("cycles", x.count(4), 11 + i);
        }
        Due.is("undo() of none", x.undo(), NOT_POSSIBLE);
    }

    /** Promise 21: "records the state before it (also if nothing is different then)". */
    private static void historyKeepsChangesByWhichNothingIsDifferent() {
        StrideBanks x = new StrideBanks();
        x.set(StrideBanks.BANKS, 8);
        x.reset();
        x.save(0);
        x.restore(0);
        x.add(1, 1, 1);
        x.stride(0, 1);
        Due.is("recorded: all but save()", x.count(13), 5);
        Due.is("undo() of stride()", x.undo(), 4);
        Due.is("the stream stays", x.count(5), 1);
        Due.is("undo() of add()", x.undo(), 3);
        Due.is("undo() of restore()", x.undo(), 2);
        Due.is("undo() of reset()", x.undo(), 1);
        Due.is("undo() of set()", x.undo(), 0);
    }

    /** Promise 21: "each method that is a change, and returns no error". */
    private static void historyKeepsNoErrors() {
        StrideBanks x = Scenes.full();
        int before = x.count(13);
        Due.is("set()", x.set(4, 0), BAD_VALUE);
        Due.is("add()", x.add(0, 0, 0), BAD_VALUE);
        Due.is("add() to four", x.add(0, 0, 1), TOO_MANY);
        Due.is("read() behind four", x.read(), TOO_MANY);
        x.wipe();
        Due.is("read() of nothing", x.read(), BAD_TEXT);
        Due.is("drop()", x.drop(4), NO_SUCH);
        Due.is("stride() of none", x.stride(4, 0), NO_SUCH);
        Due.is("stride()", x.stride(0, 1024), BAD_VALUE);
        Due.is("run()", x.run(0), BAD_VALUE);
        Due.is("restore() of an empty slot", x.restore(0), NOT_POSSIBLE);
        Due.is("restore() of no slot", x.restore(2), BAD_VALUE);
        Due.is("save()", x.save(2), BAD_VALUE);
        Due.is("recorded", x.count(13), before);
        Due.is("undo() of run()", x.undo(), before - 1);
        Due.is("cycles", x.count(4), 0);
        StrideBanks y = Scenes.late();
        Due.is("run() beyond the last cycle", y.run(1), TOO_MANY);
        y.undo();
        Due.is("undo() of the last run()", y.count(4), 99996);
    }

    /** Promise 21: a method that isn't called a change records nothing. */
    private static void historyKeepsNothingElse() {
        StrideBanks x = Scenes.of(1, 1, 9, 2, 2, 9);
        x.bankOf(5);
        x.stream(0, 8);
        x.bank(0, 3);
        x.count(9);
        x.untilDone();
        x.alone(0, 5);
        x.bestStride(0, 0, 9);
        x.bestMap(0);
        x.clashes(0, 1);
        x.put('1');
        x.fault();
        x.wipe();
        x.save(0);
        Due.is("recorded", x.count(13), 2);
        Due.is("undo() of the second add()", x.undo(), 1);
        Due.is("streams", x.count(5), 1);
    }

    /** Promise 21: undo() is none of the changes: it can't be undone. */
    private static void undoIsNotRecorded() {
        StrideBanks x = new StrideBanks();
        x.run(5);
        x.run(7);
        Due.is("undo()", x.undo(), 1);
        Due.is("undo()", x.undo(), 0);
        Due.is("undo() of an undo()", x.undo(), NOT_POSSIBLE);
        Due.is("cycles", x.count(4), 0);
    }

    /** Promises 7 and 21: behind the last cycle, undo() goes back. */
    private static void undoBehindTheLastCycle() {
        StrideBanks x = Scenes.late();
        Due.is("run(1)", x.run(1), TOO_MANY);
        Due.is("undo()", x.undo(), 5);
        Due.is("cycles", x.count(4), 99996);
        Due.is("run(4)", x.run(4), TOO_MANY);
        Due.is("run(3)", x.run(3), 2);
    }

    /** Promise 22: "slot: 0 or 1", "BAD_VALUE if there is no such slot". */
    private static void saveInNoSuchSlot() {
        for (int slot : new int[] {-1, 2, 3, MAX, MIN}) {
            Twins.refused("save(" + slot + ")", Scenes::onTheWay, x -> x.save(slot), BAD_VALUE);
            Twins.refused("save(" + slot + ") of a new store", Scenes::empty, x -> x.save(slot), BAD_VALUE);
        }
    }

    /** Promise 22: "slot: 0 or 1", "Returns the cycles that were run". */
    private static void saveInTheFirstAndTheLastSlot() {
        StrideBanks x = new StrideBanks();
        Due.is("save(0)", x.save(0), 0);
        x.run(500);
        Due.is("save(1)", x.save(1), 500);
        Due.is("restore(0)", x.restore(0), 0);
        Due.is("restore(1)", x.restore(1), 500);
        StrideBanks y = Scenes.late();
        Due.is("save(0) behind the last cycle", y.save(0), 99999);
    }

    /** Promise 22: "and overwrites what was saved there", and nothing in the other slot. */
    private static void saveOverwrites() {
        StrideBanks x = Scenes.of(1, 1, 9, 2, 1, 9, 3, 1, 9);
        x.save(0);
        x.save(1);
        x.drop(0);
        x.drop(0);
        x.run(3);
        Due.is("save(0)", x.save(0), 3);
        Due.is("restore(1)", x.restore(1), 0);
        Due.is("streams", x.count(5), 3);
        Due.is("restore(0)", x.restore(0), 3);
        Due.is("streams", x.count(5), 1);
        Due.is("its start", x.stream(0, 0), 3);
        Due.is("words left", x.stream(0, 3), 6);
    }

    /** Promises 22 and 23: an empty store is saved, too, and is not the same as nothing saved. */
    private static void saveOfAnEmptyStore() {
        StrideBanks x = new StrideBanks();
        Due.is("save(1)", x.save(1), 0);
        x.add(1, 1, 1);
        x.run(3);
        Due.is("restore(1)", x.restore(1), 0);
        Due.counts("empty again", x, 8, 4, 0, 0, 0, 0, 0, 0, 0, 0, 0, 7, 0, 3);
        Due.is("nothing was saved in 0", x.restore(0), NOT_POSSIBLE);
    }

    /** Promises 21 and 22: save() is not called a change. */
    private static void saveIsNoChange() {
        StrideBanks x = new StrideBanks();
        x.save(0);
        Due.is("recorded", x.count(13), 0);
        Due.is("undo()", x.undo(), NOT_POSSIBLE);
        x.run(3);
        x.save(1);
        Due.is("undo() of run()", x.undo(), 0);
        Due.is("cycles", x.count(4), 0);
        Twins.alike("save() where the same is saved already", () -> {
            StrideBanks y = Scenes.onTheWay();
            y.save(1);
            return y;
        }, y -> y.save(1));
    }

    /** Promise 22: what is saved is not changed by later calls. */
    private static void saveKeepsItsState() {
        Twins.alike("restore(0) behind changes", () -> {
            StrideBanks x = Scenes.onTheWay();
            x.save(0);
            x.restore(0);
            for (int i = 0; i < 6; i++) {
                x.reset();
            }
            x.restore(0);
            return x;
        }, x -> {
            x.stride(0, 9);
            x.drop(1);
            x.run(9);
            x.set(StrideBanks.BANKS, 2);
            x.add(9, 9, 9);
            for (int i = 0; i < 5; i++) {
                x.restore(0);
                x.reset();
            }
            for (int i = 0; i < 6; i++) {
                x.reset();
            }
            x.restore(0);
        });
    }

    /** Promise 23: "BAD_VALUE if there is no such slot". */
    private static void restoreOfNoSuchSlot() {
        for (int slot : new int[] {-1, 2, 3, MAX, MIN}) {
            Twins.refused("restore(" + slot + ")", Scenes::onTheWay, x -> x.restore(slot), BAD_VALUE);
            Twins.refused("restore(" + slot + ") of a new store", Scenes::empty, x -> x.restore(slot), BAD_VALUE);
        }
    }

    /** Promise 23: "NOT_POSSIBLE if nothing was saved in it". */
    private static void restoreOfAnEmptySlot() {
        for (int slot = 0; slot < 2; slot++) {
            int asked = slot;
            Twins.refused("restore(" + slot + ") of a new store", Scenes::empty, x -> x.restore(asked), NOT_POSSIBLE);
            Twins.refused("restore(" + slot + ") of late", Scenes::late, x -> x.restore(asked), NOT_POSSIBLE);
        }
    }

    /** Promise 23: "nothing was saved in it", though in the other one. */
    private static void restoreOfTheOtherSlot() {
        Twins.refused("restore(0)", Scenes::full, x -> x.restore(0), NOT_POSSIBLE);
        Twins.refused("restore(1)", () -> {
            StrideBanks x = Scenes.late();
            x.save(0);
            return x;
        }, x -> x.restore(1), NOT_POSSIBLE);
    }

    /** Promise 23: "Restores what was saved last in a slot". */
    private static void restoreOfWhatWasSavedLast() {
        StrideBanks x = new StrideBanks();
        for (int i = 1; i <= 5; i++) {
            x.run(i);
            x.save(1);
        }
        x.run(50);
        Due.is("restore(1)", x.restore(1), 15);
        Due.is("cycles", x.count(4), 15);
    }

    /** Promise 23: "in a slot, which keeps it". */
    private static void restoreKeepsTheSlot() {
        StrideBanks x = Scenes.of(0, 8, 3, 8, 8, 3);
        x.run(5);
        x.save(0);
        for (int i = 0; i < 3; i++) {
            Due.is("restore(0)", x.restore(0), 5);
            Due.stream("restored", x, 0, 0, 8, 3, 1, 16, 3, 0);
            Due.stream("restored", x, 1, 8, 8, 3, 3, 8, 5, 5);
            Due.bank("restored", x, 0, 3, 2, 8, 4);
            x.run(20 + i);
            x.drop(0);
        }
    }

    /** Promise 22: "everything except the pad, the history and the slots". */
    private static void restoreLeavesPadAndHistory() {
        StrideBanks x = Scenes.with("1+1*1");
        x.run(1);
        x.save(0);
        Due.putAll(x, ";2+2*2");
        x.run(1);
        x.run(1);
        Due.is("restore(0)", x.restore(0), 1);
        Due.is("the pad stays", x.count(12), 11);
        Due.is("recorded", x.count(13), 4);
        Due.is("undo() of restore()", x.undo(), 3);
        Due.is("cycles", x.count(4), 3);
        Due.is("undo() of run()", x.undo(), 2);
        Due.is("cycles", x.count(4), 2);
        Due.is("read()", x.read(), 2);
    }

    /** Promises 21 and 23: restoring what is there is a change. */
    private static void restoreOfWhatIsThere() {
        StrideBanks x = new StrideBanks();
        x.save(0);
        Due.is("restore(0)", x.restore(0), 0);
        Due.is("recorded", x.count(13), 1);
        Due.is("undo()", x.undo(), 0);
        Due.is("undo() again", x.undo(), NOT_POSSIBLE);
    }

    /** Promises 7 and 23: behind the last cycle, restore() goes back, and forth again. */
    private static void restoreBehindTheLastCycle() {
        StrideBanks x = Scenes.late();
        x.save(0);
        x.reset();
        x.save(1);
        Due.is("restore(0)", x.restore(0), 99999);
        Due.is("run(1)", x.run(1), TOO_MANY);
        Due.is("restore(1)", x.restore(1), 0);
        Due.is("run(1)", x.run(1), 2);
    }

    /** Promise 23: as many streams as were saved, whatever is there. */
    private static void restoreOfFewerAndOfMoreStreams() {
        StrideBanks x = new StrideBanks();
        x.save(0);
        for (int i = 0; i < 4; i++) {
            x.add(i, i, 9);
        }
        x.save(1);
        Due.is("restore(0)", x.restore(0), 0);
        Due.is("no streams", x.count(5), 0);
        Due.is("drop(0)", x.drop(0), NO_SUCH);
        Due.is("restore(1)", x.restore(1), 0);
        Due.is("four streams", x.count(5), 4);
        Due.is("add()", x.add(0, 0, 1), TOO_MANY);
        Due.stream("the last one", x, 3, 3, 3, 9);
    }
}
