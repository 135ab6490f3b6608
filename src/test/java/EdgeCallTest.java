/** The edges that promises 1 to 10 name, where the call is allowed: the least, the most, the last. */
public final class EdgeCallTest {
    public static void main(String[] args) {
        promise1TwoObjectsShareNothing();
        promise2EveryCorner();
        promise3FirstAndLastSlot();
        promise3JustWhatItBears();
        promise3OnAFloatOnTheRiver();
        promise3ABurntLantern();
        promise4FromEverySortOfFloat();
        promise4DarkThenUnlessBurntDown();
        promise4TheWeightIsFree();
        promise5FirstAndLastMinute();
        promise5AtBothEndsOfTheRiver();
        promise6FirstAndLastMinute();
        promise6LeavesTheLanternWhereItHangs();
        promise7EveryCorner();
        promise8CountsOnlyThoseOnTheRiver();
        promise8AllEight();
        promise9EveryCorner();
        promise9RulesComeAtOnceForTheNextMinute();
        promise10EveryCorner();
        Due.end();
    }

    private static void promise1TwoObjectsShareNothing() {
        Festoon x = Scene.mixed();
        x.setRules(20, 9);
        x.setGust(400, 9);
        Festoon y = new Festoon();
        Due.is("time", y.time(), 0);
        Due.is("lanterns", y.lanterns(), 0);
        Due.throwing("no lantern", Due.INDEX, () -> y.stateOf(0));
        Due.throwing("no float", Due.INDEX, () -> y.sortOf(0));
        Due.is("no prize", y.prize(0), Festoon.NONE);
        Due.is("no gust", y.setGust(400, 0), 0);
        Due.is("the gap", y.setRules(2, 0), 2);
    }

    private static void promise2EveryCorner() {
        Festoon x = new Festoon();
        int number = 0;
        for (int ribs = 4; ribs <= 12; ribs += 8) {
            for (int paper = 0; paper <= 3; paper += 3) {
                for (int candle = 1; candle <= 4; candle += 3) {
                    Due.is("make(" + ribs + ", " + paper + ", " + candle + ")",
                            x.make(ribs, paper, candle), number);
                    number++;
                }
            }
        }
    }

    /** "slot: 0 to 9" */
    private static void promise3FirstAndLastSlot() {
        Festoon x = Scene.oneFloat(1);
        x.make(4, 0, 1);
        x.make(4, 0, 1);
        Due.is("slot 0", x.hang(0, 0, 0), 130);
        Due.is("slot 9", x.hang(1, 0, 9), 260);
        Due.is("the place of slot 0", x.placeOf(0), 9);
        Due.is("the place of slot 9", x.placeOf(1), 0);
    }

    /** "or would have more load than it bears" */
    private static void promise3JustWhatItBears() {
        for (int more = -1; more <= 1; more++) {
            Festoon x = new Festoon();
            x.build(1, 660 + more);
            x.make(4, 0, 1);
            x.make(12, 3, 4);
            x.hang(0, 0, 0);
            Due.is("660 where it bears " + (660 + more), Due.outcome(() -> x.hang(1, 0, 1)),
                    more < 0 ? "throws IllegalStateException" : "660");
            Due.is("load", x.load(0), more < 0 ? 130 : 660);
        }
    }

    private static void promise3OnAFloatOnTheRiver() {
        Festoon x = Scene.oneFloat(1);
        Scene.passLong(x, 490);
        Due.is("at 499", x.front(0), 499);
        x.make(4, 0, 1);
        Due.is("hang there", x.hang(0, 0, 0), 130);
        Due.is("its place", x.placeOf(0), 499);
        x.takeDown(0);
        x.pass(1);
        Due.throwing("at 500 it is gone", Due.STATE, () -> x.hang(0, 0, 0));
    }

    private static void promise3ABurntLantern() {
        Festoon x = Scene.oneFloat(1);
        Scene.lightNew(x, 0, 0, 1);
        x.pass(20);
        x.takeDown(0);
        Due.is("hang", x.hang(0, 0, 9), 130);
        Due.is("burnt down still", x.stateOf(0), Festoon.BURNT);
        Due.is("its place", x.placeOf(0), 20);
    }

    /** "Returns the number of the float." */
    private static void promise4FromEverySortOfFloat() {
        Festoon x = Scene.mixed();
        Due.is("from a float that is gone", x.takeDown(0), 0);
        Due.is("from one on the river", x.takeDown(4), 2);
        Due.is("from one ashore", x.takeDown(5), 3);
        Due.throwing("once more", Due.STATE, () -> x.takeDown(0));
        x.build(1, 9999);
        Due.is("it may hang again", x.hang(0, 4, 0), x.load(4));
    }

    /** "it is dark then, unless it is burnt down" */
    private static void promise4DarkThenUnlessBurntDown() {
        Festoon x = Scene.mixed();
        int[] before = {0, 2, 0, 1, 1, 0};
        int[] after = {0, 2, 0, 0, 0, 0};
        for (int i = 0; i < 6; i++) {
            Due.is("state before", x.stateOf(i), before[i]);
            int left = x.left(i);
            x.takeDown(i);
            Due.is("state after", x.stateOf(i), after[i]);
            Due.is("its candle is as it was", x.left(i), left);
        }
        Due.is("none is lit", x.pass(60), 0);
        Due.is("neither gust nor marshal", x.blownOut() + x.ordered(), 0);
    }

    private static void promise4TheWeightIsFree() {
        Festoon x = new Festoon();
        x.build(1, 130);
        x.make(4, 0, 1);
        x.make(4, 0, 1);
        for (int i = 0; i < 20; i++) {
            Due.is("hang", x.hang(i % 2, 0, i % 10), 130);
            Due.is("take down", x.takeDown(i % 2), 0);
            Due.is("load", x.load(0), 0);
        }
    }

    /** "Returns how many minutes its candle has left." */
    private static void promise5FirstAndLastMinute() {
        Festoon x = Scene.oneFloat(1);
        Scene.hangNew(x, 0, 0, 4);
        for (int left = 80; left >= 1; left--) {
            Due.is("light", x.light(0), left);
            x.pass(1);
            if (left > 1) {
                x.putOut(0);
            }
        }
        Due.is("burnt down", x.stateOf(0), Festoon.BURNT);
        Due.throwing("light it then", Due.STATE, () -> x.light(0));
    }

    private static void promise5AtBothEndsOfTheRiver() {
        Festoon x = Scene.oneFloat(1);
        Scene.hangNew(x, 0, 9, 1);
        Scene.hangNew(x, 0, 0, 1);
        Due.is("at the metre 0", x.light(0), 20);
        x.putOut(0);
        Scene.passLong(x, 490);
        Due.is("at the metre 499", x.light(1), 20);
        Due.is("at the metre 490", x.light(0), 20);
        Due.is("both go dark at 500", x.pass(1), 2);
        Due.throwing("light beyond", Due.STATE, () -> x.light(0));
    }

    private static void promise6FirstAndLastMinute() {
        Festoon x = Scene.oneFloat(1);
        Scene.lightNew(x, 0, 0, 4);
        Due.is("at once", x.putOut(0), 80);
        x.light(0);
        Scene.passLong(x, 79);
        Due.is("a minute before the end", x.putOut(0), 1);
        Due.is("dark, not burnt down", x.stateOf(0), Festoon.DARK);
        x.pass(1);
        Due.is("it burns no more", x.left(0), 1);
    }

    private static void promise6LeavesTheLanternWhereItHangs() {
        Festoon x = Scene.oneFloat(1);
        Scene.lightNew(x, 0, 4, 1);
        x.putOut(0);
        Due.is("its place", x.placeOf(0), 5);
        Due.is("the load", x.load(0), 130);
        Due.is("it can be lit again", x.light(0), 20);
    }

    private static void promise7EveryCorner() {
        Festoon x = new Festoon();
        Due.is("build(1, 100)", x.build(1, 100), 0);
        Due.is("build(1, 9999)", x.build(1, 9999), 1);
        Due.is("build(9, 100)", x.build(9, 100), 2);
        Due.is("build(9, 9999)", x.build(9, 9999), 3);
        for (int i = 0; i < 4; i++) {
            Due.is("ashore", x.sortOf(i), Festoon.ASHORE);
            Due.is("no load", x.load(i), 0);
        }
    }

    /** "Returns how many floats are on the river then." */
    private static void promise8CountsOnlyThoseOnTheRiver() {
        Festoon x = new Festoon();
        for (int i = 0; i < 4; i++) {
            x.build(9, 100);
        }
        Due.is("the first", x.launch(3), 1);
        x.pass(54);
        Due.is("while the first is at 495", x.launch(2), 2);
        x.pass(10);
        Due.is("the first is gone", x.launch(1), 2);
        x.pass(60);
        Due.is("all three are gone", x.launch(0), 1);
    }

    private static void promise8AllEight() {
        Festoon x = new Festoon();
        for (int i = 0; i < 8; i++) {
            x.build(9, 100);
        }
        for (int i = 0; i < 8; i++) {
            Due.is("launch", x.launch(7 - i), i + 1);
            x.pass(3);
        }
        for (int i = 0; i < 8; i++) {
            int raft = i;
            Due.throwing("launch it again", Due.STATE, () -> x.launch(raft));
        }
    }

    /** "Returns the gap that it was." */
    private static void promise9EveryCorner() {
        Festoon x = new Festoon();
        Due.is("setRules(1, 0)", x.setRules(1, 0), 2);
        Due.is("setRules(20, 0)", x.setRules(20, 0), 1);
        Due.is("setRules(1, 9)", x.setRules(1, 9), 20);
        Due.is("setRules(20, 9)", x.setRules(20, 9), 1);
        Due.is("setRules(20, 9) again", x.setRules(20, 9), 20);
    }

    private static void promise9RulesComeAtOnceForTheNextMinute() {
        Festoon x = Scene.oneFloat(1);
        Scene.lightNew(x, 0, 0, 1);
        Scene.lightNew(x, 0, 2, 1);
        x.setRules(2, 9);
        Due.is("both are lit before a minute passes", x.stateOf(1), Festoon.LIT);
        x.setRules(2, 0);
        Due.is("the rules of the minute count", x.pass(1), 0);
        x.setRules(2, 1);
        Due.is("one metre more", x.pass(1), 1);
    }

    /** "minute: 1 to 400", "strength: 0 to 9" */
    private static void promise10EveryCorner() {
        Festoon x = new Festoon();
        Due.is("setGust(1, 0)", x.setGust(1, 0), 0);
        Due.is("setGust(1, 9)", x.setGust(1, 9), 0);
        Due.is("setGust(400, 0)", x.setGust(400, 0), 0);
        Due.is("setGust(400, 9)", x.setGust(400, 9), 0);
        Due.is("minute 1 has it", x.setGust(1, 0), 9);
        Due.is("minute 400 has it", x.setGust(400, 0), 9);
        Due.is("minute 2 has none", x.setGust(2, 0), 0);
        Due.is("minute 399 has none", x.setGust(399, 0), 0);
    }
}
