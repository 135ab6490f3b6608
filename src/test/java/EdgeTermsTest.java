/** The edges that the Terms name, sentence by sentence in the order of the document. */
public final class EdgeTermsTest {
    public static void main(String[] args) {
        askingChangesNothing();
        timeFromZero();
        lanternsNumberedFromZeroAtMost24();
        weightOfEveryLantern();
        darkAtFirstWithTwentyMinutesForEachSize();
        floatsNumberedFromZeroAtMost8();
        tenSlotsEachForOneLantern();
        theMetreOfEverySlot();
        theOrderIsThatOfLaunching();
        launchedWithItsFrontAt9();
        roomToLaunchForEveryGap();
        theGapIs2AtFirst();
        noRoomIsAskedOfARiverWithoutFloats();
        onlyTheLastFloatOnTheRiverMustLeaveRoom();
        distanceToLightForEverySum();
        distanceIsTheSameAheadAndBehind();
        theBaseIs0AtFirst();
        onlyLitLanternsKeepOthersDark();
        Due.end();
    }

    /** "places, distances, loads and likenesses are asked, which changes nothing" */
    private static void askingChangesNothing() {
        Festoon x = Scene.mixed();
        Festoon unasked = Scene.mixed();
        Scene.answers(x);
        Scene.answers(x);
        Due.is("the same minutes after many questions", x.pass(7), unasked.pass(7));
        Due.is("the same answers after many questions", Scene.answers(x), Scene.answers(unasked));
    }

    /** "The time is in minutes, from 0 on." */
    private static void timeFromZero() {
        Festoon x = new Festoon();
        Due.is("time at first", x.time(), 0);
        for (int i = 0; i < 509; i++) {
            x.pass(60);
        }
        Due.is("time at the 511th call", x.time(), 30540);
        Due.is("time at the 512th call", x.time(), 30540);
    }

    /** "Lanterns are numbered from 0 on; at most 24 are made." */
    private static void lanternsNumberedFromZeroAtMost24() {
        Festoon x = new Festoon();
        for (int i = 0; i < 24; i++) {
            int next = i;
            Due.throwing("lantern " + i + " before it is made", Due.INDEX, () -> x.left(next));
            Due.is("its number", x.make(4, 0, 1), i);
            Due.is("lantern " + i + " when it is made", x.left(i), 20);
        }
        Due.throwing("the 25th", Due.STATE, () -> x.make(4, 0, 1));
        Due.throwing("lantern 24", Due.INDEX, () -> x.left(24));
        Due.is("24 stay", x.lanterns(), 24);
    }

    /** "it weighs 20 for each rib, 30 times its paper, and 50 times its candle, together" */
    private static void weightOfEveryLantern() {
        for (int ribs = 4; ribs <= 12; ribs++) {
            for (int paper = 0; paper <= 3; paper++) {
                for (int candle = 1; candle <= 4; candle++) {
                    Festoon x = new Festoon();
                    x.make(ribs, paper, candle);
                    x.build(1, 9999);
                    int weight = ribs * 20 + paper * 30 + candle * 50;
                    Due.is("load of one of " + ribs + " ribs, paper " + paper + ", candle " + candle,
                            x.hang(0, 0, 0), weight);
                }
            }
        }
    }

    /** "dark at first; its candle has 20 minutes for each size left at first" */
    private static void darkAtFirstWithTwentyMinutesForEachSize() {
        Festoon x = new Festoon();
        int[] minutes = {20, 40, 60, 80};
        for (int i = 0; i < 4; i++) {
            x.make(4, 0, i + 1);
            Due.is("dark at first", x.stateOf(i), Festoon.DARK);
            Due.is("left at first of size " + (i + 1), x.left(i), minutes[i]);
        }
    }

    /** "Floats are numbered from 0 on; at most 8 are built." */
    private static void floatsNumberedFromZeroAtMost8() {
        Festoon x = new Festoon();
        for (int i = 0; i < 8; i++) {
            int next = i;
            Due.throwing("float " + i + " before it is built", Due.INDEX, () -> x.load(next));
            Due.is("its number", x.build(1, 100), i);
            Due.is("ashore at first", x.sortOf(i), Festoon.ASHORE);
        }
        Due.throwing("the 9th", Due.STATE, () -> x.build(1, 100));
        Due.throwing("float 8", Due.INDEX, () -> x.load(8));
    }

    /** "ten slots, 0 to 9, each for one lantern" */
    private static void tenSlotsEachForOneLantern() {
        Festoon x = new Festoon();
        x.build(1, 9999);
        x.build(1, 9999);
        for (int slot = 0; slot <= 9; slot++) {
            Scene.hangNew(x, 0, slot, 1);
        }
        int more = x.make(4, 0, 1);
        for (int slot = 0; slot <= 9; slot++) {
            int taken = slot;
            Due.throwing("slot " + slot + " is full", Due.ARGUMENT, () -> x.hang(more, 0, taken));
        }
        Due.throwing("slot -1", Due.INDEX, () -> x.hang(more, 0, -1));
        Due.throwing("slot 10", Due.INDEX, () -> x.hang(more, 0, 10));
        Due.is("the slots of a full float", x.load(0), 1300);
        Due.is("the same slot of another float", x.hang(more, 1, 9), 130);
    }

    /** "the slot k is at the metre of its front less k, and its rear at that less 9" */
    private static void theMetreOfEverySlot() {
        Festoon x = new Festoon();
        x.build(7, 9999);
        for (int slot = 0; slot <= 9; slot++) {
            Scene.hangNew(x, 0, slot, 1);
        }
        x.launch(0);
        for (int slot = 0; slot <= 9; slot++) {
            Due.is("slot " + slot + " at launch", x.placeOf(slot), 9 - slot);
        }
        x.pass(11);
        for (int slot = 0; slot <= 9; slot++) {
            Due.is("slot " + slot + " after 77 metres", x.placeOf(slot), 86 - slot);
        }
    }

    /** "Floats on the river keep the order in which they were launched." */
    private static void theOrderIsThatOfLaunching() {
        Festoon x = new Festoon();
        for (int i = 0; i < 8; i++) {
            x.build(i == 7 ? 1 : 9, 9999);
        }
        x.launch(7);
        for (int i = 6; i >= 0; i--) {
            x.pass(11);
            Due.is("launch of " + i, x.launch(i), 8 - i);
        }
        for (int i = 0; i < 8; i++) {
            Due.is("float " + i + " waits for the one that was launched before it", x.front(i),
                    9 + 11 * i);
        }
        x.pass(60);
        for (int i = 0; i < 8; i++) {
            Due.is("float " + i + " an hour later", x.front(i), 69 + 11 * i);
        }
    }

    /** "A float is launched with its front at 9" */
    private static void launchedWithItsFrontAt9() {
        for (int speed = 1; speed <= 9; speed++) {
            Festoon x = new Festoon();
            x.pass(3);
            x.build(speed, 100);
            Due.is("front ashore", x.front(0), Festoon.NONE);
            x.launch(0);
            Due.is("front at launch", x.front(0), 9);
            x.pass(1);
            Due.is("front a minute later", x.front(0), 9 + speed);
        }
    }

    /** "the rear of the last float on the river must be at 9 and the gap, together, or beyond" */
    private static void roomToLaunchForEveryGap() {
        for (int gap = 1; gap <= 20; gap++) {
            Festoon x = Scene.oneFloat(1);
            x.build(1, 100);
            x.setRules(gap, 0);
            x.pass(9 + gap - 1);
            Due.throwing("rear a metre short of the gap " + gap, Due.STATE, () -> x.launch(1));
            Due.is("it stays ashore", x.sortOf(1), Festoon.ASHORE);
            x.pass(1);
            Due.is("rear at 9 and the gap " + gap, x.launch(1), 2);
            Festoon y = Scene.oneFloat(1);
            y.build(1, 100);
            y.setRules(gap, 0);
            y.pass(9 + gap + 1);
            Due.is("rear beyond 9 and the gap " + gap, y.launch(1), 2);
        }
    }

    /** "The gap is 2 at first." */
    private static void theGapIs2AtFirst() {
        Festoon x = Scene.oneFloat(1);
        x.build(9, 100);
        x.pass(10);
        Due.throwing("the rear at 10", Due.STATE, () -> x.launch(1));
        x.pass(1);
        Due.is("the rear at 11", x.launch(1), 2);
        x.pass(1);
        Due.is("it follows at 2 metres", x.front(0) - 9 - x.front(1), 2);
        Due.is("the gap that it was", x.setRules(1, 0), 2);
    }

    private static void noRoomIsAskedOfARiverWithoutFloats() {
        Festoon x = new Festoon();
        x.build(9, 100);
        x.build(9, 100);
        x.setRules(20, 9);
        Due.is("the first of all", x.launch(1), 1);
        x.pass(55);
        Due.is("it is gone", x.sortOf(1), Festoon.GONE);
        Due.is("the first after all are gone", x.launch(0), 1);
        Due.is("its front", x.front(0), 9);
    }

    private static void onlyTheLastFloatOnTheRiverMustLeaveRoom() {
        Festoon x = new Festoon();
        for (int i = 0; i < 3; i++) {
            x.build(i == 1 ? 1 : 9, 100);
        }
        x.launch(0);
        x.pass(5);
        x.launch(1);
        x.pass(10);
        Due.is("the first is far", x.front(0), 144);
        Due.throwing("the last is too near", Due.STATE, () -> x.launch(2));
        x.pass(1);
        Due.is("the last is far enough", x.launch(2), 3);
    }

    /** "no nearer to each other than the sum of both candles and the base" */
    private static void distanceToLightForEverySum() {
        for (int one = 1; one <= 4; one++) {
            for (int other = 1; other <= 4; other++) {
                for (int base = 0; base <= 9; base++) {
                    String what = "candles " + one + " and " + other + ", base " + base;
                    int sum = one + other + base;
                    Festoon x = Scene.twoApart(sum, one, other);
                    x.setRules(1, base);
                    x.light(1);
                    Due.is(what + ", as far as the sum", x.light(0), 20 * one);
                    Festoon y = Scene.twoApart(sum - 1, one, other);
                    y.setRules(1, base);
                    y.light(1);
                    Due.throwing(what + ", a metre nearer", Due.STATE, () -> y.light(0));
                    Due.is("it stays dark", y.stateOf(0), Festoon.DARK);
                }
            }
        }
    }

    /** "the distance is the difference of their places" */
    private static void distanceIsTheSameAheadAndBehind() {
        for (int slot = 0; slot <= 9; slot++) {
            if (slot == 5) {
                continue;
            }
            Festoon x = Scene.oneFloat(1);
            Scene.hangNew(x, 0, 5, 1);
            Scene.lightNew(x, 0, slot, 1);
            int metres = slot < 5 ? 5 - slot : slot - 5;
            Due.is("the distance to slot " + slot, x.nearest(0), metres);
            Due.is("light beside slot " + slot, Due.outcome(() -> x.light(0)),
                    metres >= 2 ? "20" : "throws IllegalStateException");
        }
    }

    /** "the base, 0 at first" */
    private static void theBaseIs0AtFirst() {
        Festoon x = Scene.oneFloat(1);
        Scene.lightNew(x, 0, 0, 1);
        Scene.hangNew(x, 0, 1, 1);
        Scene.hangNew(x, 0, 2, 1);
        Due.throwing("1 metre for candles 1 and 1", Due.STATE, () -> x.light(1));
        Due.is("2 metres for candles 1 and 1", x.light(2), 20);
    }

    /** "no lit lantern would be nearer than it may": dark and burnt ones do not count. */
    private static void onlyLitLanternsKeepOthersDark() {
        Festoon x = Scene.oneFloat(1);
        Scene.lightNew(x, 0, 4, 1);
        Scene.hangNew(x, 0, 5, 1);
        Due.throwing("beside a lit one", Due.STATE, () -> x.light(1));
        x.putOut(0);
        Due.is("beside a dark one", x.light(1), 20);
        x.putOut(1);
        x.light(0);
        x.pass(20);
        Due.is("burnt", x.stateOf(0), Festoon.BURNT);
        Due.is("beside a burnt one", x.light(1), 20);
        x.putOut(1);
        x.takeDown(1);
        Due.throwing("hung on none", Due.STATE, () -> x.light(1));
        x.build(1, 9999);
        x.hang(1, 1, 0);
        Due.throwing("hung on a float ashore", Due.STATE, () -> x.light(1));
    }
}
