/** Promises 7 to 9 and 21 to 23: floats, built, launched and asked about, and the rules. */
public final class RaftTest {
    public static void main(String[] args) {
        promise7Build();
        promise8Launch();
        promise8LaunchKeepsTheGap();
        promise9SetRules();
        promise21SortOf();
        promise22Front();
        promise22FrontKeepsTheGap();
        promise22FrontNeverGoesBack();
        promise22FrontBehindOneThatLeaves();
        promise23Load();
        Due.end();
    }

    private static void promise7Build() {
        Festoon x = new Festoon();
        int[][] bad = {{0, 100}, {10, 100}, {1, 99}, {1, 10000}, {-1, 100},
            {Integer.MAX_VALUE, 100}, {1, Integer.MIN_VALUE}};
        refuseBuilds(x, bad);
        Due.throwing("nothing built by a call that throws", Due.INDEX, () -> x.sortOf(0));
        for (int i = 0; i < 8; i++) {
            Due.is("build " + i, x.build(1 + i, i == 0 ? 100 : 9999), i);
        }
        Due.throwing("the 9th float", Due.STATE, () -> x.build(9, 9999));
        refuseBuilds(x, bad);
        Due.is("the last one is there", x.sortOf(7), Festoon.ASHORE);
        Due.throwing("there is no 8", Due.INDEX, () -> x.sortOf(8));
        x.make(4, 0, 1);
        Due.throwing("float 0 bears 100", Due.STATE, () -> x.hang(0, 0, 0));
    }

    private static void refuseBuilds(Festoon x, int[][] bad) {
        for (int[] b : bad) {
            Due.throwing("build(" + b[0] + ", " + b[1] + ")", Due.ARGUMENT,
                    () -> x.build(b[0], b[1]));
        }
    }

    private static void promise8Launch() {
        Festoon x = new Festoon();
        for (int bad : new int[] {-1, 0, 8, Integer.MIN_VALUE, Integer.MAX_VALUE}) {
            Due.throwing("launch(" + bad + ")", Due.INDEX, () -> x.launch(bad));
        }
        x.build(9, 9999);
        x.build(9, 9999);
        x.build(9, 9999);
        Due.is("launch the first", x.launch(2), 1);
        Due.is("its front", x.front(2), 9);
        Due.throwing("launch one on the river", Due.STATE, () -> x.launch(2));
        x.pass(20);
        Due.throwing("launch one on the river, with room", Due.STATE, () -> x.launch(2));
        Due.is("launch the second", x.launch(0), 2);
        x.pass(40);
        Due.is("the first is gone", x.sortOf(2), Festoon.GONE);
        Due.throwing("launch one that is gone", Due.STATE, () -> x.launch(2));
        Due.is("gone ones are not counted", x.launch(1), 2);
        x.pass(60);
        Due.is("all gone", x.prize(0), Festoon.NONE);
    }

    private static void promise8LaunchKeepsTheGap() {
        Festoon x = new Festoon();
        x.build(1, 9999);
        x.build(1, 9999);
        x.build(1, 9999);
        x.launch(0);
        Due.throwing("at once", Due.STATE, () -> x.launch(1));
        x.pass(10);
        Due.throwing("a metre too near", Due.STATE, () -> x.launch(1));
        Due.is("a refused one stays ashore", x.sortOf(1), Festoon.ASHORE);
        x.setRules(1, 0);
        Due.is("the rear at 10, the gap 1", x.launch(1), 2);
        x.setRules(20, 0);
        x.pass(28);
        Due.is("the second waits for the gap", x.front(1), 18);
        Due.throwing("the last counts, not the first", Due.STATE, () -> x.launch(2));
        x.pass(20);
        Due.is("the second", x.front(1), 38);
        x.setRules(20, 0);
        Due.is("the rear at 29, the gap 20", x.launch(2), 3);
    }

    private static void promise9SetRules() {
        Festoon x = new Festoon();
        int[][] bad = {{0, 0}, {21, 0}, {1, -1}, {1, 10}, {Integer.MIN_VALUE, 0},
            {1, Integer.MAX_VALUE}};
        for (int[] b : bad) {
            Due.throwing("setRules(" + b[0] + ", " + b[1] + ")", Due.ARGUMENT,
                    () -> x.setRules(b[0], b[1]));
        }
        Due.is("the gap at first", x.setRules(1, 9), 2);
        Due.is("the gap before", x.setRules(20, 0), 1);
        Due.throwing("setRules(5, 10)", Due.ARGUMENT, () -> x.setRules(5, 10));
        Due.is("a call that throws sets nothing", x.setRules(7, 0), 20);
        x.build(1, 9999);
        x.make(4, 0, 1);
        x.make(4, 0, 1);
        x.hang(0, 0, 0);
        x.hang(1, 0, 2);
        x.launch(0);
        x.light(0);
        Due.throwing("setRules(0, 1)", Due.ARGUMENT, () -> x.setRules(0, 1));
        Due.is("the base is as it was", x.light(1), 20);
    }

    private static void promise21SortOf() {
        Festoon x = new Festoon();
        x.build(9, 9999);
        for (int bad : new int[] {-1, 1, 8, Integer.MIN_VALUE, Integer.MAX_VALUE}) {
            Due.throwing("sortOf(" + bad + ")", Due.INDEX, () -> x.sortOf(bad));
        }
        Due.is("a new one", x.sortOf(0), Festoon.ASHORE);
        x.launch(0);
        Due.is("a launched one", x.sortOf(0), Festoon.RIVER);
        x.pass(54);
        Due.is("at 495", x.sortOf(0), Festoon.RIVER);
        x.pass(1);
        Due.is("at 504", x.sortOf(0), Festoon.GONE);
    }

    private static void promise22Front() {
        Festoon x = new Festoon();
        x.build(1, 9999);
        for (int bad : new int[] {-1, 1, 8, Integer.MIN_VALUE, Integer.MAX_VALUE}) {
            Due.throwing("front(" + bad + ")", Due.INDEX, () -> x.front(bad));
        }
        Due.is("ashore", x.front(0), Festoon.NONE);
        x.launch(0);
        Due.is("at launch", x.front(0), 9);
        for (int i = 0; i < 49; i++) {
            x.pass(10);
        }
        Due.is("at 499", x.front(0), 499);
        x.pass(1);
        Due.is("at 500 it is gone", x.front(0), Festoon.NONE);
        Due.is("gone at 500", x.sortOf(0), Festoon.GONE);
    }

    private static void promise22FrontKeepsTheGap() {
        Festoon x = new Festoon();
        x.build(9, 9999);
        x.build(2, 9999);
        x.launch(1);
        x.pass(6);
        x.launch(0);
        Due.is("the slow one at 21", x.front(1), 21);
        x.pass(1);
        Due.is("the one ahead moved first", x.front(0), 12);
        x.pass(1);
        Due.is("it follows", x.front(0), 14);
        x.setRules(1, 0);
        x.pass(1);
        Due.is("a narrower gap", x.front(0), 17);
    }

    private static void promise22FrontNeverGoesBack() {
        Festoon x = new Festoon();
        x.build(1, 9999);
        x.build(9, 9999);
        x.launch(0);
        x.pass(11);
        x.launch(1);
        x.setRules(20, 0);
        x.pass(18);
        Due.is("it waits", x.front(1), 9);
        x.pass(1);
        Due.is("at 39 - 9 - 20", x.front(1), 10);
    }

    private static void promise22FrontBehindOneThatLeaves() {
        Festoon x = new Festoon();
        x.build(1, 9999);
        x.build(9, 9999);
        x.launch(0);
        x.pass(60);
        x.launch(1);
        for (int i = 0; i < 43; i++) {
            x.pass(10);
        }
        Due.is("the slow one at 499", x.front(0), 499);
        Due.is("the fast one behind", x.front(1), 488);
        x.pass(1);
        Due.is("the slow one is gone", x.sortOf(0), Festoon.GONE);
        Due.is("all moved before it was gone", x.front(1), 489);
        x.pass(1);
        Due.is("none is ahead now", x.front(1), 498);
    }

    private static void promise23Load() {
        Festoon x = new Festoon();
        x.build(9, 9999);
        x.build(9, 9999);
        for (int bad : new int[] {-1, 2, 8, Integer.MIN_VALUE, Integer.MAX_VALUE}) {
            Due.throwing("load(" + bad + ")", Due.INDEX, () -> x.load(bad));
        }
        Due.is("nothing", x.load(0), 0);
        for (int i = 0; i < 10; i++) {
            x.make(12, 3, 4);
            Due.is("hang " + i, x.hang(i, 0, i), 530 * (i + 1));
        }
        Due.is("ten of the heaviest", x.load(0), 5300);
        Due.is("the other float", x.load(1), 0);
        x.takeDown(4);
        Due.is("nine", x.load(0), 4770);
        x.launch(0);
        x.pass(60);
        Due.is("gone, and loaded still", x.load(0), 4770);
        x.takeDown(5);
        Due.is("taken down from a gone one", x.load(0), 4240);
    }
}
