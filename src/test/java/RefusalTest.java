/** The Terms: a call that throws an exception changes nothing. All answers are asked before and after. */
public final class RefusalTest {
    public static void main(String[] args) {
        lanternCalls();
        floatCalls();
        Due.end();
    }

    /** Floats 0 gone, 1 and 2 on the river, 3 ashore; lanterns lit, dark, burnt down, and hung on none. */
    private static Festoon parade() {
        Festoon x = new Festoon();
        for (int i = 0; i < 4; i++) {
            x.build(i == 3 ? 1 : 9, i == 3 ? 300 : 9999);
        }
        int[] rafts = {0, 1, 1, 1, 2, 3};
        int[] slots = {0, 0, 4, 9, 5, 5};
        int[] candles = {4, 1, 2, 3, 4, 1};
        for (int i = 0; i < rafts.length; i++) {
            x.hang(x.make(4 + i, i % 4, candles[i]), rafts[i], slots[i]);
        }
        x.make(12, 3, 4);
        x.launch(0);
        x.pass(30);
        x.launch(1);
        x.light(1);
        x.pass(20);
        x.light(3);
        x.launch(2);
        x.light(4);
        x.pass(10);
        return x;
    }

    private static String answers(Festoon x) {
        StringBuilder text = new StringBuilder();
        text.append(x.time()).append(' ').append(x.blownOut()).append(' ').append(x.ordered());
        for (int i = 0; i < x.lanterns(); i++) {
            text.append(" / ").append(x.stateOf(i)).append(' ').append(x.left(i)).append(' ')
                    .append(x.placeOf(i)).append(' ').append(x.nearest(i)).append(' ')
                    .append(x.nearestOfAll(i));
        }
        for (int i = 0; i < 4; i++) {
            text.append(" | ").append(x.sortOf(i)).append(' ').append(x.front(i)).append(' ')
                    .append(x.load(i)).append(' ').append(x.likeness(i, 512));
        }
        return text.append(' ').append(x.prize(512)).toString();
    }

    private static void refused(String what, Class<?> want, Festoon x, Due.Call call) {
        String before = answers(x);
        Due.throwing(what, want, call);
        Due.is("after " + what + " all", answers(x), before);
    }

    private static void lanternCalls() {
        Festoon x = parade();
        Due.is("the burnt one", x.stateOf(1), Festoon.BURNT);
        refused("make(4, 0, 5)", Due.ARGUMENT, x, () -> x.make(4, 0, 5));
        refused("hang in a taken slot", Due.ARGUMENT, x, () -> x.hang(6, 1, 9));
        refused("hang on a gone float", Due.STATE, x, () -> x.hang(6, 0, 1));
        Festoon y = parade();
        refused("hang what is too heavy", Due.STATE, y, () -> y.hang(6, 3, 1));
        refused("hang what hangs", Due.STATE, y, () -> y.hang(3, 2, 1));
        refused("takeDown of none", Due.STATE, y, () -> y.takeDown(6));
        Festoon z = parade();
        refused("light a lit one", Due.STATE, z, () -> z.light(3));
        z.setRules(2, 9);
        refused("light one too near", Due.STATE, z, () -> z.light(2));
        refused("putOut of a burnt one", Due.STATE, z, () -> z.putOut(1));
    }

    private static void floatCalls() {
        Festoon x = parade();
        refused("build(10, 100)", Due.ARGUMENT, x, () -> x.build(10, 100));
        refused("launch a gone one", Due.STATE, x, () -> x.launch(0));
        refused("launch one on the river", Due.STATE, x, () -> x.launch(2));
        Festoon y = parade();
        y.launch(3);
        y.build(9, 100);
        refused("launch one too near", Due.STATE, y, () -> y.launch(4));
        refused("setRules(20, 10)", Due.ARGUMENT, y, () -> y.setRules(20, 10));
        refused("pass(61)", Due.ARGUMENT, y, () -> y.pass(61));
        Due.is("gap", y.setRules(3, 0), 2);
        Due.throwing("setGust(70, 10)", Due.ARGUMENT, () -> y.setGust(70, 10));
        Due.is("gust", y.setGust(70, 1), 0);
    }
}
