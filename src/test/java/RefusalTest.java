/**
 * The Terms: a call that throws an exception changes nothing, and the one that the throws clause
 * names first is thrown. Each refused call is made on an object of its own, which must then answer
 * like a twin that never heard of it, at once and after more calls.
 */
public final class RefusalTest {
    interface Deed {
        int on(Festoon x);
    }

    /** Numbers of lanterns and of floats that neither Scene.mixed() nor Scene.full() has. */
    private static final int[] NO_LANTERN = {-1, 24, 25, Integer.MIN_VALUE, Integer.MAX_VALUE};
    private static final int[] NO_RAFT = {-1, 8, 9, Integer.MIN_VALUE, Integer.MAX_VALUE};
    private static final int[] NO_SLOT = {-1, 10, Integer.MIN_VALUE, Integer.MAX_VALUE};
    private static final int[] NO_FIGURE = {-1, 1024, Integer.MIN_VALUE, Integer.MAX_VALUE};

    public static void main(String[] args) {
        promise2Make();
        promise3HangOnWhatIsNot();
        promise3HangInATakenSlot();
        promise3HangInAFreeSlot();
        promise4TakeDown();
        promise5Light();
        promise5LightTooNear();
        promise6PutOut();
        promise7Build();
        promise8Launch();
        promise8LaunchTooNear();
        promise9SetRules();
        promise10SetGust();
        promise11Pass();
        promises14To18AskForALantern();
        promises21To23AskForAFloat();
        promise24Likeness();
        promise25Prize();
        Due.end();
    }

    private static void refused(String what, Class<?> want, Deed deed) {
        compare(what, want, Scene.mixed(), Scene.mixed(), deed);
    }

    private static void refusedByFull(String what, Class<?> want, Deed deed) {
        compare(what + " when full", want, Scene.full(), Scene.full(), deed);
    }

    private static void compare(String what, Class<?> want, Festoon x, Festoon twin, Deed deed) {
        Due.throwing(what, want, () -> deed.on(x));
        Due.is("after " + what + " all answers", Scene.answers(x), Scene.answers(twin));
        Due.is("after " + what + " more calls", moreCalls(x), moreCalls(twin));
    }

    /** Shows what no question tells: the base, the gap, the gusts, and where the next ones go. */
    private static String moreCalls(Festoon x) {
        StringBuilder text = new StringBuilder();
        text.append(Due.outcome(() -> x.light(2))).append(' ');
        text.append(x.setRules(3, 1)).append(' ');
        int[] minutes = {1, 61, 62, 400};
        for (int minute : minutes) {
            text.append(x.setGust(minute, 2)).append(' ');
        }
        text.append(Due.outcome(() -> x.make(4, 0, 1))).append(' ');
        text.append(Due.outcome(() -> x.build(3, 130))).append(' ');
        text.append(Due.outcome(() -> x.hang(7, 4, 0))).append(' ');
        text.append(Due.outcome(() -> x.launch(3))).append(' ');
        text.append(x.pass(15)).append(' ');
        text.append(Due.outcome(() -> x.takeDown(6))).append(' ');
        return text.append(Scene.answers(x)).toString();
    }

    private static void promise2Make() {
        int[][] bad = {{3, 0, 1}, {13, 3, 4}, {4, -1, 1}, {12, 4, 4}, {4, 0, 0}, {12, 3, 5},
            {Integer.MIN_VALUE, 0, 1}, {Integer.MAX_VALUE, 0, 1}, {4, Integer.MIN_VALUE, 1},
            {4, Integer.MAX_VALUE, 1}, {4, 0, Integer.MIN_VALUE}, {4, 0, Integer.MAX_VALUE}};
        for (int[] b : bad) {
            String what = "make(" + b[0] + ", " + b[1] + ", " + b[2] + ")";
            refused(what, Due.ARGUMENT, x -> x.make(b[0], b[1], b[2]));
            refusedByFull(what, Due.ARGUMENT, x -> x.make(b[0], b[1], b[2]));
        }
        refusedByFull("make(4, 0, 1)", Due.STATE, x -> x.make(4, 0, 1));
    }

    private static void hangRefused(Class<?> want, int lantern, int raft, int slot) {
        refused("hang(" + lantern + ", " + raft + ", " + slot + ")", want,
                x -> x.hang(lantern, raft, slot));
    }

    /** The slots 0 of float 0, which is gone, and 9 of float 1 are taken; 3 hangs, 6 hangs on none. */
    private static void promise3HangOnWhatIsNot() {
        hangRefused(Due.INDEX, 7, 1, 1);
        hangRefused(Due.INDEX, 6, 4, 1);
        for (int lantern : NO_LANTERN) {
            hangRefused(Due.INDEX, lantern, 1, 1);
            hangRefused(Due.INDEX, lantern, 1, 9);
            hangRefused(Due.INDEX, lantern, 0, 1);
        }
        for (int raft : NO_RAFT) {
            hangRefused(Due.INDEX, 6, raft, 1);
            hangRefused(Due.INDEX, 3, raft, 9);
        }
        for (int slot : NO_SLOT) {
            hangRefused(Due.INDEX, 6, 1, slot);
            hangRefused(Due.INDEX, 3, 1, slot);
            hangRefused(Due.INDEX, 6, 0, slot);
            hangRefused(Due.INDEX, 6, 3, slot);
        }
    }

    private static void promise3HangInATakenSlot() {
        hangRefused(Due.ARGUMENT, 6, 1, 9);
        hangRefused(Due.ARGUMENT, 3, 1, 9);
        hangRefused(Due.ARGUMENT, 3, 1, 0);
        hangRefused(Due.ARGUMENT, 3, 2, 5);
        hangRefused(Due.ARGUMENT, 6, 0, 0);
        hangRefused(Due.ARGUMENT, 6, 3, 5);
    }

    private static void promise3HangInAFreeSlot() {
        hangRefused(Due.STATE, 3, 1, 1);
        hangRefused(Due.STATE, 3, 2, 1);
        hangRefused(Due.STATE, 6, 0, 1);
        hangRefused(Due.STATE, 3, 0, 1);
        hangRefused(Due.STATE, 0, 2, 1);
        hangRefused(Due.STATE, 6, 3, 1);
        hangRefused(Due.STATE, 3, 3, 1);
    }

    private static void promise4TakeDown() {
        refused("takeDown(7)", Due.INDEX, x -> x.takeDown(7));
        for (int lantern : NO_LANTERN) {
            refused("takeDown(" + lantern + ")", Due.INDEX, x -> x.takeDown(lantern));
        }
        refused("takeDown(6)", Due.STATE, x -> x.takeDown(6));
    }

    /** 0 is on a float that is gone, 1 is burnt down, 3 lit, 5 ashore, 6 hangs on none. */
    private static void promise5Light() {
        refused("light(7)", Due.INDEX, x -> x.light(7));
        for (int lantern : NO_LANTERN) {
            refused("light(" + lantern + ")", Due.INDEX, x -> x.light(lantern));
        }
        for (int lantern : new int[] {0, 1, 3, 5, 6}) {
            refused("light(" + lantern + ")", Due.STATE, x -> x.light(lantern));
        }
    }

    private static void promise5LightTooNear() {
        Festoon x = Scene.mixed();
        Festoon twin = Scene.mixed();
        x.setRules(2, 1);
        twin.setRules(2, 1);
        compare("light(2), 5 metres where 6 are due", Due.STATE, x, twin, y -> y.light(2));
    }

    private static void promise6PutOut() {
        refused("putOut(7)", Due.INDEX, x -> x.putOut(7));
        for (int lantern : NO_LANTERN) {
            refused("putOut(" + lantern + ")", Due.INDEX, x -> x.putOut(lantern));
        }
        for (int lantern : new int[] {0, 1, 2, 5, 6}) {
            refused("putOut(" + lantern + ")", Due.STATE, x -> x.putOut(lantern));
        }
    }

    private static void promise7Build() {
        int[][] bad = {{0, 100}, {10, 9999}, {1, 99}, {9, 10000}, {Integer.MIN_VALUE, 100},
            {Integer.MAX_VALUE, 100}, {1, Integer.MIN_VALUE}, {1, Integer.MAX_VALUE}};
        for (int[] b : bad) {
            String what = "build(" + b[0] + ", " + b[1] + ")";
            refused(what, Due.ARGUMENT, x -> x.build(b[0], b[1]));
            refusedByFull(what, Due.ARGUMENT, x -> x.build(b[0], b[1]));
        }
        refusedByFull("build(1, 100)", Due.STATE, x -> x.build(1, 100));
    }

    private static void promise8Launch() {
        refused("launch(4)", Due.INDEX, x -> x.launch(4));
        for (int raft : NO_RAFT) {
            refused("launch(" + raft + ")", Due.INDEX, x -> x.launch(raft));
        }
        for (int raft : new int[] {0, 1, 2}) {
            refused("launch(" + raft + ")", Due.STATE, x -> x.launch(raft));
        }
    }

    private static void promise8LaunchTooNear() {
        Festoon x = Scene.mixed();
        Festoon twin = Scene.mixed();
        for (Festoon y : new Festoon[] {x, twin}) {
            y.build(9, 100);
            y.launch(3);
            y.pass(10);
            Due.is("front, where 20 are due", y.front(3), 19);
        }
        compare("launch(4), the rear at 10", Due.STATE, x, twin, y -> y.launch(4));
    }

    private static void promise9SetRules() {
        int[][] bad = {{0, 0}, {21, 9}, {1, -1}, {20, 10}, {Integer.MIN_VALUE, 0},
            {Integer.MAX_VALUE, 0}, {1, Integer.MIN_VALUE}, {1, Integer.MAX_VALUE}};
        for (int[] b : bad) {
            refused("setRules(" + b[0] + ", " + b[1] + ")", Due.ARGUMENT,
                    x -> x.setRules(b[0], b[1]));
        }
        refused("setRules(0, 9)", Due.ARGUMENT, x -> x.setRules(0, 9));
    }

    private static void promise10SetGust() {
        int[][] bad = {{0, 9}, {401, 9}, {1, -1}, {1, 10}, {61, -1}, {62, 10}, {400, 10}, {-1, 0},
            {Integer.MIN_VALUE, 0}, {Integer.MAX_VALUE, 0}, {61, Integer.MIN_VALUE},
            {61, Integer.MAX_VALUE}};
        for (int[] b : bad) {
            refused("setGust(" + b[0] + ", " + b[1] + ")", Due.ARGUMENT,
                    x -> x.setGust(b[0], b[1]));
        }
    }

    private static void promise11Pass() {
        for (int minutes : new int[] {0, 61, -1, -60, Integer.MIN_VALUE, Integer.MAX_VALUE}) {
            refused("pass(" + minutes + ")", Due.ARGUMENT, x -> x.pass(minutes));
        }
    }

    private static void promises14To18AskForALantern() {
        askForNoLantern(7);
        for (int lantern : NO_LANTERN) {
            askForNoLantern(lantern);
        }
    }

    private static void askForNoLantern(int lantern) {
        refused("stateOf(" + lantern + ")", Due.INDEX, x -> x.stateOf(lantern));
        refused("left(" + lantern + ")", Due.INDEX, x -> x.left(lantern));
        refused("placeOf(" + lantern + ")", Due.INDEX, x -> x.placeOf(lantern));
        refused("nearest(" + lantern + ")", Due.INDEX, x -> x.nearest(lantern));
        refused("nearestOfAll(" + lantern + ")", Due.INDEX, x -> x.nearestOfAll(lantern));
    }

    private static void promises21To23AskForAFloat() {
        askForNoFloat(4);
        for (int raft : NO_RAFT) {
            askForNoFloat(raft);
        }
    }

    private static void askForNoFloat(int raft) {
        refused("sortOf(" + raft + ")", Due.INDEX, x -> x.sortOf(raft));
        refused("front(" + raft + ")", Due.INDEX, x -> x.front(raft));
        refused("load(" + raft + ")", Due.INDEX, x -> x.load(raft));
    }

    private static void promise24Likeness() {
        refused("likeness(4, 0)", Due.INDEX, x -> x.likeness(4, 0));
        for (int raft : NO_RAFT) {
            refused("likeness(" + raft + ", 0)", Due.INDEX, x -> x.likeness(raft, 0));
        }
        for (int figure : NO_FIGURE) {
            refused("likeness(1, " + figure + ")", Due.ARGUMENT, x -> x.likeness(1, figure));
            refused("likeness(4, " + figure + ")", Due.INDEX, x -> x.likeness(4, figure));
        }
    }

    private static void promise25Prize() {
        for (int figure : NO_FIGURE) {
            refused("prize(" + figure + ")", Due.ARGUMENT, x -> x.prize(figure));
            refusedByFull("prize(" + figure + ")", Due.ARGUMENT, x -> x.prize(figure));
            Festoon none = new Festoon();
            Due.throwing("prize(" + figure + "), no float", Due.ARGUMENT, () -> none.prize(figure));
        }
    }
}
