/** Parades that several tests begin with, and everything that can be asked of one, as one text. */
final class Scene {
    private static final int MOST_RAFTS = 8;

    private Scene() {
    }

    /** A float of this speed on the river, number 0, that bears all that can hang on it. */
    static Festoon oneFloat(int speed) {
        Festoon x = new Festoon();
        x.build(speed, 9999);
        x.launch(0);
        return x;
    }

    /** Makes a lantern of 4 ribs without paper and hangs it; answers its number. */
    static int hangNew(Festoon x, int raft, int slot, int candle) {
        int lantern = x.make(4, 0, candle);
        x.hang(lantern, raft, slot);
        return lantern;
    }

    static int lightNew(Festoon x, int raft, int slot, int candle) {
        int lantern = hangNew(x, raft, slot, candle);
        x.light(lantern);
        return lantern;
    }

    /** Any number of minutes, in calls that pass() allows. */
    static void passLong(Festoon x, int minutes) {
        int rest = minutes;
        while (rest > 0) {
            int some = Math.min(rest, 60);
            x.pass(some);
            rest -= some;
        }
    }

    /**
     * Two floats of speed 1 close behind each other, lantern 0 in slot 9 of the first and lantern 1
     * in slot 0 of the second, both dark: so far from each other, 1 metre or more. The gap is 1.
     */
    static Festoon twoApart(int metres, int candle, int otherCandle) {
        Festoon x = oneFloat(1);
        x.build(1, 9999);
        x.setRules(1, 0);
        hangNew(x, 0, 9, candle);
        hangNew(x, 1, 0, otherCandle);
        passLong(x, 9 + metres);
        x.launch(1);
        return x;
    }

    /** Floats 0 gone, 1 and 2 on the river, 3 ashore; lanterns lit, dark, burnt down, and hung on none. */
    static Festoon mixed() {
        Festoon x = new Festoon();
        for (int i = 0; i < 4; i++) {
            x.build(i == 3 ? 1 : 9, i == 3 ? 300 : 9999);
        }
        int[] rafts = {0, 1, 1, 1, 2, 3};
        int[] slots = {0, 0, 4, 9, 5, 5};
        int[] candles = {4, 1, 2, 3, 4, 1};
        for (int i = 0; i < rafts.length; i++) {
            x.hang(x.make(4 + i, i % 4, candles[i]), rafts[i], slots[i]);
        }
        x.make(12, 3, 4);
        x.launch(0);
        x.pass(30);
        x.launch(1);
        x.light(1);
        x.pass(20);
        x.light(3);
        x.launch(2);
        x.light(4);
        x.pass(10);
        return x;
    }

    /** As many lanterns and floats as there may be: three lanterns a float, the first float launched. */
    static Festoon full() {
        Festoon x = new Festoon();
        for (int i = 0; i < MOST_RAFTS; i++) {
            x.build(1, 9999);
        }
        for (int i = 0; i < 24; i++) {
            hangNew(x, i / 3, i % 3 * 4, 1);
        }
        x.launch(0);
        x.light(1);
        return x;
    }

    static String answers(Festoon x) {
        StringBuilder text = new StringBuilder();
        text.append(x.time()).append(' ').append(x.blownOut()).append(' ').append(x.ordered());
        for (int i = 0; i < x.lanterns(); i++) {
            text.append(" / ").append(x.stateOf(i)).append(' ').append(x.left(i)).append(' ')
                    .append(x.placeOf(i)).append(' ').append(x.nearest(i)).append(' ')
                    .append(x.nearestOfAll(i));
        }
        for (int i = 0; i < MOST_RAFTS; i++) {
            int raft = i;
            text.append(" | ").append(Due.outcome(() -> x.sortOf(raft)))
                    .append(' ').append(Due.outcome(() -> x.front(raft)))
                    .append(' ').append(Due.outcome(() -> x.load(raft)))
                    .append(' ').append(Due.outcome(() -> x.likeness(raft, 512)));
        }
        return text.append(' ').append(x.prize(512)).toString();
    }
}
