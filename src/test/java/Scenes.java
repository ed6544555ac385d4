/** Ways that several tests come to begin at; each call makes a new object that has come that way. */
final class Scenes {
    private Scenes() {
    }

    static StrideBanks empty() {
        return new StrideBanks();
    }

    static StrideBanks of(int... startsStridesLengths) {
        StrideBanks x = new StrideBanks();
        for (int i = 0; i + 2 < startsStridesLengths.length; i += 3) {
            x.add(startsStridesLengths[i], startsStridesLengths[i + 1], startsStridesLengths[i + 2]);
        }
        return x;
    }

    static StrideBanks with(String text) {
        StrideBanks x = new StrideBanks();
        Due.putAll(x, text);
        return x;
    }

    /**
     * Six banks, three streams on their way, one of them done, a bank that a dropped stream keeps busy, both slots
     * taken by different states, the history full of different states, and a text begun in the pad.
     */
    static StrideBanks onTheWay() {
        StrideBanks x = new StrideBanks();
        x.set(StrideBanks.BANKS, 6);
        x.set(StrideBanks.BUSY, 5);
        x.set(StrideBanks.MAP, 1);
        x.set(StrideBanks.TURNS, 1);
        x.add(4090, 3, 20);
        x.add(11, 0, 1);
        x.add(3, 35, 9);
        x.run(4);
        x.save(0);
        x.add(4, 1, 7);
        x.run(3);
        x.stride(0, 12);
        x.save(1);
        x.run(2);
        x.run(1);
        x.drop(2);
        Due.putAll(x, "5+1*3;7");
        return x;
    }

    /** As many streams as there may be. */
    static StrideBanks full() {
        StrideBanks x = of(0, 8, 5, 3, 1, 4, 4095, 1023, 200, 9, 0, 2);
        x.run(2);
        x.save(1);
        Due.putAll(x, "1+1*1");
        return x;
    }

    /** As many cycles as there may be, and streams that have words left. */
    static StrideBanks late() {
        StrideBanks x = new StrideBanks();
        x.set(StrideBanks.BUSY, 12);
        for (int i = 0; i < 199; i++) {
            x.run(500);
        }
        x.run(496);
        x.add(1, 1, 9);
        x.add(2, 0, 9);
        x.run(3);
        return x;
    }
}
