/** Promises 24 and 25: the likeness of a float and a figure, and who wins the prize. */
public final class LikenessTest {
    public static void main(String[] args) {
        promise24Likeness();
        promise24AllFigures();
        promise24Refuses();
        promise25Prize();
        promise25Refuses();
        Due.end();
    }

    private static Festoon oneFloat() {
        Festoon x = new Festoon();
        x.build(9, 9999);
        int[] slots = {0, 3, 9, 5};
        for (int slot : slots) {
            x.hang(x.make(4, 0, 1), 0, slot);
        }
        return x;
    }

    private static void promise24Likeness() {
        Festoon x = oneFloat();
        Due.is("ashore, the empty figure", x.likeness(0, 0), 10);
        Due.is("ashore, all slots", x.likeness(0, 1023), 0);
        x.launch(0);
        x.light(0);
        x.light(1);
        x.light(2);
        Due.is("three lit, the empty figure", x.likeness(0, 0), 7);
        Due.is("three lit, all slots", x.likeness(0, 1023), 3);
        Due.is("slots 0, 3 and 9", x.likeness(0, 1 + 8 + 512), 10);
        Due.is("all others", x.likeness(0, 1023 - 1 - 8 - 512), 0);
        Due.is("the dark one of slot 5", x.likeness(0, 32), 6);
        Due.is("slot 3 alone", x.likeness(0, 8), 8);
        x.putOut(1);
        Due.is("slot 3 put out", x.likeness(0, 1 + 8 + 512), 9);
        x.pass(20);
        Due.is("dark or burnt down", x.likeness(0, 0), 10);
        x.takeDown(1);
        x.hang(1, 0, 1);
        x.light(1);
        Due.is("hung in another slot", x.likeness(0, 2), 10);
        x.pass(40);
        Due.is("gone, the empty figure", x.likeness(0, 0), 10);
    }

    private static void promise24AllFigures() {
        Festoon x = oneFloat();
        x.launch(0);
        x.light(0);
        x.light(2);
        for (int figure = 0; figure < 1024; figure += 3) {
            Due.is("likeness(0, " + figure + ")", x.likeness(0, figure),
                    10 - Integer.bitCount(figure ^ (1 + 512)));
        }
    }

    private static void promise24Refuses() {
        Festoon x = oneFloat();
        for (int bad : new int[] {-1, 1, 8, Integer.MIN_VALUE, Integer.MAX_VALUE}) {
            Due.throwing("likeness(" + bad + ", 0)", Due.INDEX, () -> x.likeness(bad, 0));
            Due.throwing("likeness(" + bad + ", -1)", Due.INDEX, () -> x.likeness(bad, -1));
        }
        for (int bad : new int[] {-1, 1024, Integer.MIN_VALUE, Integer.MAX_VALUE}) {
            Due.throwing("likeness(0, " + bad + ")", Due.ARGUMENT, () -> x.likeness(0, bad));
        }
    }

    private static void promise25Prize() {
        Festoon x = new Festoon();
        for (int i = 0; i < 4; i++) {
            x.build(9, 9999);
            x.hang(x.make(4, 0, 4), i, i);
        }
        Due.is("none on the river", x.prize(0), Festoon.NONE);
        x.launch(2);
        Due.is("the only one", x.prize(1023), 2);
        x.pass(10);
        x.launch(0);
        x.pass(10);
        x.launch(1);
        Due.is("all alike: launched first", x.prize(0), 2);
        x.light(1);
        Due.is("the one with slot 1", x.prize(2), 1);
        Due.is("slot 0 is lit nowhere, 2 and 0 alike", x.prize(1), 2);
        x.light(0);
        Due.is("the one with slot 0", x.prize(1), 0);
        Due.is("slots 0 and 1: launched first of two", x.prize(3), 0);
        Due.is("all slots: launched first of two", x.prize(1023), 0);
        Due.is("one ashore counts not", x.prize(8), 2);
        x.pass(35);
        Due.is("the first is gone", x.sortOf(2), Festoon.GONE);
        Due.is("one that is gone counts not", x.prize(0), 0);
        x.putOut(0);
        Due.is("the first of those left", x.prize(0), 0);
        x.pass(60);
        Due.is("all gone", x.prize(0), Festoon.NONE);
    }

    private static void promise25Refuses() {
        Festoon x = oneFloat();
        x.launch(0);
        for (int bad : new int[] {-1, 1024, Integer.MIN_VALUE, Integer.MAX_VALUE}) {
            Due.throwing("prize(" + bad + ")", Due.ARGUMENT, () -> x.prize(bad));
        }
    }
}
