import java.util.ArrayList;
import java.util.List;
import java.util.function.Consumer;
import java.util.function.Function;
import java.util.function.Supplier;
import java.util.function.ToIntFunction;

/**
 * Shows that a call changed nothing: of two objects that came the same way one alone gets the call, and both
 * must then tell the same of now, of the cycles ahead, of what can be undone, of the slots and of the pad. Each of
 * these is asked of a pair of its own, since an object is promised for 512 calls only.
 */
final class Twins {
    private Twins() {
    }

    /** The call answers its error and changes nothing. */
    static void refused(String call, Supplier<StrideBanks> scene, ToIntFunction<StrideBanks> asked, int error) {
        Due.is(call, asked.applyAsInt(scene.get()), error);
        unchanged(call, scene, asked);
    }

    static void unchanged(String call, Supplier<StrideBanks> scene, ToIntFunction<StrideBanks> asked) {
        alike("behind " + call, scene, asked::applyAsInt);
    }

    /** Both ways from the scene on lead to the same. */
    static void alike(String way, Supplier<StrideBanks> scene, Consumer<StrideBanks> taken) {
        compare(way + ", now", scene, taken, Twins::now);
        compare(way + ", ahead", scene, taken, Twins::ahead);
        compare(way + ", undone", scene, taken, Twins::back);
        compare(way + ", slots", scene, taken, Twins::slots);
        compare(way + ", pad", scene, taken, Twins::pad);
    }

    private static void compare(String when, Supplier<StrideBanks> scene, Consumer<StrideBanks> taken,
            Function<StrideBanks, List<Integer>> telling) {
        StrideBanks one = scene.get();
        StrideBanks other = scene.get();
        taken.accept(other);
        List<Integer> due = telling.apply(one);
        List<Integer> got = telling.apply(other);
        Due.is(when + ": answers", got.size(), due.size());
        for (int i = 0; i < Math.min(got.size(), due.size()); i++) {
            Due.is(when + ": answer " + i, got.get(i), due.get(i));
        }
    }

    /** All that there is to be seen. */
    static List<Integer> now(StrideBanks x) {
        List<Integer> told = new ArrayList<>();
        for (int what = 0; what < 14; what++) {
            told.add(x.count(what));
        }
        for (int stream = 0; stream < 4; stream++) {
            for (int what = 0; what < 9; what++) {
                told.add(x.stream(stream, what));
            }
        }
        for (int bank = 0; bank < 16; bank++) {
            for (int what = 0; what < 4; what++) {
                told.add(x.bank(bank, what));
            }
        }
        return told;
    }

    /** The clashes ahead tell who made the banks busy, and the turns which cycle it is. */
    private static List<Integer> ahead(StrideBanks x) {
        List<Integer> told = new ArrayList<>();
        told.add(x.untilDone());
        for (int i = 0; i < 14; i++) {
            told.add(x.run(1));
            for (int stream = 0; stream < 4; stream++) {
                told.add(x.stream(stream, 5));
                told.add(x.stream(stream, 6));
            }
        }
        told.add(x.run(500));
        told.add(x.count(6));
        return told;
    }

    private static List<Integer> back(StrideBanks x) {
        List<Integer> told = new ArrayList<>();
        for (int i = 0; i < 7; i++) {
            told.add(x.undo());
            for (int what = 0; what < 14; what++) {
                told.add(x.count(what));
            }
            for (int stream = 0; stream < 4; stream++) {
                told.add(x.stream(stream, 1));
                told.add(x.stream(stream, 4));
                told.add(x.stream(stream, 5));
            }
        }
        return told;
    }

    private static List<Integer> slots(StrideBanks x) {
        List<Integer> told = new ArrayList<>();
        for (int slot = 0; slot < 2; slot++) {
            told.add(x.restore(slot));
            told.addAll(now(x));
            told.add(x.run(2));
        }
        return told;
    }

    /** What the pad holds is seen by reading it, ended if it needs an end, into a store that has room. */
    private static List<Integer> pad(StrideBanks x) {
        List<Integer> told = new ArrayList<>();
        for (int i = 0; i < 4; i++) {
            told.add(x.drop(0));
        }
        told.add(x.fault());
        told.add(x.read());
        told.add(x.put(Due.packed("+9*8")));
        told.add(x.fault());
        told.add(x.read());
        told.add(x.wipe());
        for (int stream = 0; stream < 4; stream++) {
            for (int what = 0; what < 3; what++) {
                told.add(x.stream(stream, what));
            }
        }
        return told;
    }
}
