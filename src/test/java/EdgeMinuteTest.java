/** The edges of a minute, sentence by sentence in the order of the Terms, and of promises 10 and 11. */
public final class EdgeMinuteTest {
    private static final int[] RIBS_THIRD = {1, 1, 2, 2, 2, 3, 3, 3, 4};

    public static void main(String[] args) {
        timeBecomesOneMore();
        eachGoesOnByItsSpeed();
        atMostAtTheRearAheadLessTheGap();
        theOneAheadMovesFirst();
        neverGoesBack();
        justBefore500();
        at500AndBeyond();
        allMoveBeforeOneIsGone();
        goneAtAnyGapAfterAllMoved();
        goneBeforeTheMinuteOfTheNext();
        goneBeforeTheGust();
        goneLanternsBecomeDark();
        goneBurntOnesStaySo();
        severalGoneInOneCall();
        gustOfEveryStrength();
        noGustToldIsNone();
        gustOfTheVeryMinute();
        gustOfTheFirstAndLastMinute();
        gustToldLaterReplaces();
        gustOfThePast();
        gustLeavesDarkAndBurntOnes();
        candleOfEverySize();
        onlyLitCandlesBurn();
        marshalForEverySum();
        marshalLeavesTheLowerNumber();
        marshalSeesOnlyLitOnes();
        passOfOneAndSixty();
        sixtyOnceIsOneSixtyTimes();
        passWithNothingThere();
        passCountsEachLanternOnce();
        Due.end();
    }

    /** "the time becomes 1 more" */
    private static void timeBecomesOneMore() {
        Festoon x = new Festoon();
        for (int i = 1; i <= 450; i++) {
            x.pass(1);
            if (i % 50 == 0) {
                Due.is("time", x.time(), i);
            }
        }
    }

    /** "each goes on by its speed" */
    private static void eachGoesOnByItsSpeed() {
        for (int speed = 1; speed <= 9; speed++) {
            Festoon x = Scene.oneFloat(speed);
            for (int minute = 1; minute <= 20; minute++) {
                x.pass(1);
                Due.is("front at speed " + speed, x.front(0), 9 + speed * minute);
            }
        }
    }

    /** "its front is at most at the rear of the one ahead .. less the gap" */
    private static void atMostAtTheRearAheadLessTheGap() {
        for (int gap = 1; gap <= 20; gap++) {
            Festoon x = Scene.oneFloat(1);
            x.build(9, 9999);
            x.setRules(gap, 0);
            x.pass(16 + gap);
            x.launch(1);
            Due.is("7 metres to spare", x.front(0) - 9 - gap - x.front(1), 7);
            x.pass(1);
            Due.is("8 metres on, speed 9, gap " + gap, x.front(1), 17);
            x.pass(1);
            Due.is("1 metre on, gap " + gap, x.front(1), 18);
            Festoon y = Scene.oneFloat(1);
            y.build(9, 9999);
            y.setRules(gap, 0);
            y.pass(17 + gap);
            y.launch(1);
            y.pass(1);
            Due.is("the very 9 metres, gap " + gap, y.front(1), 18);
            y.pass(1);
            Due.is("then 1 metre, gap " + gap, y.front(1), 19);
        }
    }

    /** "the one ahead, as it is then": it has moved already. */
    private static void theOneAheadMovesFirst() {
        Festoon x = new Festoon();
        x.build(5, 9999);
        x.build(5, 9999);
        x.build(5, 9999);
        x.launch(2);
        x.pass(3);
        x.launch(1);
        x.pass(3);
        x.launch(0);
        x.setRules(6, 0);
        x.pass(1);
        Due.is("first", x.front(2), 44);
        Due.is("second", x.front(1), 29);
        Due.is("third", x.front(0), 14);
        x.setRules(7, 0);
        x.pass(1);
        Due.is("first goes on by 5", x.front(2), 49);
        Due.is("second goes on by 4", x.front(1), 33);
        Due.is("third goes on by 3", x.front(0), 17);
    }

    /** "and never goes back" */
    private static void neverGoesBack() {
        Festoon x = Scene.oneFloat(1);
        x.build(9, 9999);
        x.build(9, 9999);
        x.setRules(1, 0);
        x.pass(20);
        x.launch(1);
        x.pass(20);
        x.launch(2);
        x.pass(5);
        Due.is("close up", x.front(0) - 9 - 1, x.front(1));
        int second = x.front(1);
        int third = x.front(2);
        x.setRules(20, 0);
        for (int i = 0; i < 19; i++) {
            x.pass(1);
            Due.is("the second stays", x.front(1), second);
            Due.is("the third stays", x.front(2), third);
        }
        x.pass(1);
        Due.is("the second goes on", x.front(1), second + 1);
    }

    private static void justBefore500() {
        Festoon x = Scene.oneFloat(7);
        Scene.lightNew(x, 0, 0, 4);
        x.putOut(0);
        Scene.passLong(x, 69);
        x.light(0);
        x.pass(1);
        Due.is("front at 499", x.front(0), 499);
        Due.is("on the river", x.sortOf(0), Festoon.RIVER);
        Due.is("lit still", x.stateOf(0), Festoon.LIT);
        Due.is("the metre 499", x.placeOf(0), 499);
        Due.is("then gone", x.pass(1), 1);
        Due.is("gone", x.sortOf(0), Festoon.GONE);
    }

    /** "A float whose front is at 500 or beyond is gone" */
    private static void at500AndBeyond() {
        int[] lastMinute = {491, 246, 164, 123, 99, 82, 71, 62, 55};
        for (int speed = 1; speed <= 9; speed++) {
            Festoon x = Scene.oneFloat(speed);
            Scene.passLong(x, lastMinute[speed - 1] - 1);
            Due.is("on the river at speed " + speed, x.sortOf(0), Festoon.RIVER);
            x.pass(1);
            Due.is("gone at speed " + speed, x.sortOf(0), Festoon.GONE);
            Due.is("no front", x.front(0), Festoon.NONE);
            x.pass(60);
            Due.is("it stays gone", x.sortOf(0), Festoon.GONE);
        }
    }

    /**
     * "the floats on the river move, in their order", and the sentence after it: "A float whose
     * front is at 500 or beyond is gone". So the one that leaves has moved and held the others back.
     */
    private static void allMoveBeforeOneIsGone() {
        Festoon x = Scene.oneFloat(1);
        x.build(9, 9999);
        x.build(9, 9999);
        x.pass(60);
        x.launch(1);
        x.pass(60);
        x.launch(2);
        Scene.passLong(x, 370);
        Due.is("the first", x.front(0), 499);
        Due.is("the second", x.front(1), 488);
        Due.is("the third", x.front(2), 477);
        x.pass(1);
        Due.is("the first is gone", x.sortOf(0), Festoon.GONE);
        Due.is("the second behind its rear at 491", x.front(1), 489);
        Due.is("the third behind the second", x.front(2), 478);
        x.pass(1);
        Due.is("none ahead", x.front(1), 498);
        Due.is("behind the second", x.front(2), 487);
        x.pass(1);
        Due.is("the second is gone at 507", x.sortOf(1), Festoon.GONE);
        Due.is("the third on by its speed", x.front(2), 496);
        x.pass(1);
        Due.is("the third is gone", x.sortOf(2), Festoon.GONE);
    }

    /** The gap that stands in the minute in which the one ahead leaves: at 500, its rear at 491. */
    private static void goneAtAnyGapAfterAllMoved() {
        for (int gap = 1; gap <= 20; gap++) {
            Festoon x = Scene.oneFloat(1);
            x.build(9, 9999);
            x.setRules(20, 0);
            x.pass(60);
            x.launch(1);
            Scene.passLong(x, 430);
            Due.is("20 behind 490", x.front(1), 470);
            x.setRules(gap, 0);
            x.pass(1);
            Due.is("the first is gone", x.front(0), Festoon.NONE);
            Due.is("by 9, or as far as gap " + gap, x.front(1), Math.min(479, 491 - gap));
            x.pass(1);
            Due.is("by 9 then, gap " + gap, x.front(1), Math.min(479, 491 - gap) + 9);
        }
    }

    /** One that is gone is not on the river: it is not in the way, and a launch needs no room behind. */
    private static void goneBeforeTheMinuteOfTheNext() {
        Festoon x = Scene.oneFloat(9);
        x.build(1, 9999);
        x.pass(54);
        x.setRules(20, 0);
        Due.is("behind one at 495", x.launch(1), 2);
        x.pass(1);
        Due.is("gone", x.sortOf(0), Festoon.GONE);
        Due.is("the other one goes on", x.front(1), 10);
        x.pass(60);
        Due.is("and on", x.front(1), 70);
    }

    /** "Then the gust of this minute": what the river's end made dark was not blown out. */
    private static void goneBeforeTheGust() {
        Festoon x = Scene.oneFloat(9);
        x.build(9, 9999);
        x.pass(30);
        x.launch(1);
        x.pass(24);
        Scene.lightNew(x, 0, 0, 1);
        Scene.lightNew(x, 1, 0, 1);
        x.setGust(55, 9);
        Due.is("one gone, one blown out", x.pass(1), 2);
        Due.is("gone", x.sortOf(0), Festoon.GONE);
        Due.is("the gust took one", x.blownOut(), 1);
    }

    /** "and its lanterns become dark" */
    private static void goneLanternsBecomeDark() {
        Festoon x = Scene.oneFloat(9);
        x.pass(54);
        int[] slots = {0, 3, 6, 9};
        for (int slot : slots) {
            Scene.lightNew(x, 0, slot, 1);
        }
        Scene.hangNew(x, 0, 4, 1);
        Due.is("four of five were lit", x.pass(1), 4);
        for (int i = 0; i < 5; i++) {
            Due.is("dark", x.stateOf(i), Festoon.DARK);
            Due.is("no minute burned", x.left(i), 20);
            Due.is("no place", x.placeOf(i), Festoon.NONE);
        }
        Due.is("they hang still", x.load(0), 5 * 130);
        Due.is("neither gust nor marshal", x.blownOut() + x.ordered(), 0);
    }

    /** "those that are burnt down stay so" */
    private static void goneBurntOnesStaySo() {
        Festoon x = Scene.oneFloat(9);
        Scene.lightNew(x, 0, 0, 1);
        Due.is("burnt down", x.pass(54), 1);
        Due.is("not counted again", x.pass(1), 0);
        Due.is("it stays so", x.stateOf(0), Festoon.BURNT);
        Due.is("nothing left", x.left(0), 0);
    }

    private static void severalGoneInOneCall() {
        Festoon x = new Festoon();
        for (int i = 0; i < 3; i++) {
            x.build(9, 9999);
        }
        for (int i = 0; i < 3; i++) {
            x.launch(i);
            x.pass(3);
        }
        x.pass(25);
        for (int i = 0; i < 3; i++) {
            Scene.lightNew(x, i, 0, 4);
        }
        Due.is("three are gone with their lanterns", x.pass(60), 3);
        for (int i = 0; i < 3; i++) {
            Due.is("gone", x.sortOf(i), Festoon.GONE);
            Due.is("dark", x.stateOf(i), Festoon.DARK);
        }
        Due.is("left on the first", x.left(0), 80 - 20);
        Due.is("left on the last", x.left(2), 80 - 26);
    }

    /** "whose paper and a third of whose ribs, rounded down, together are less than the strength" */
    private static void gustOfEveryStrength() {
        for (int ribs = 4; ribs <= 12; ribs++) {
            for (int paper = 0; paper <= 3; paper++) {
                for (int strength = 0; strength <= 9; strength++) {
                    Festoon x = Scene.oneFloat(1);
                    x.make(ribs, paper, 1);
                    x.hang(0, 0, 0);
                    x.light(0);
                    x.setGust(1, strength);
                    boolean blown = paper + RIBS_THIRD[ribs - 4] < strength;
                    String what = ribs + " ribs, paper " + paper + ", strength " + strength;
                    Due.is(what, x.pass(1), blown ? 1 : 0);
                    Due.is(what, x.stateOf(0), blown ? Festoon.DARK : Festoon.LIT);
                    Due.is(what, x.blownOut(), blown ? 1 : 0);
                    Due.is(what, x.left(0), blown ? 20 : 19);
                }
            }
        }
    }

    /** "0 if none was told" */
    private static void noGustToldIsNone() {
        Festoon x = Scene.oneFloat(1);
        Scene.lightNew(x, 0, 0, 4);
        Due.is("no minute blows", x.pass(60), 0);
        Due.is("blownOut", x.blownOut(), 0);
        Due.is("the strength that it had", x.setGust(400, 0), 0);
    }

    /** "the gust of this minute, which is the time now": after the time became 1 more. */
    private static void gustOfTheVeryMinute() {
        Festoon x = Scene.oneFloat(1);
        Scene.lightNew(x, 0, 0, 4);
        x.setGust(5, 9);
        Due.is("minutes 1 to 4", x.pass(4), 0);
        Due.is("minute 5", x.pass(1), 1);
        x.light(0);
        Due.is("minutes 6 to 10", x.pass(5), 0);
        x.setGust(10, 9);
        x.setGust(12, 9);
        Due.is("minute 11, the time is 10", x.pass(1), 0);
        Due.is("minute 12", x.pass(1), 1);
    }

    private static void gustOfTheFirstAndLastMinute() {
        Festoon x = Scene.oneFloat(1);
        Scene.lightNew(x, 0, 0, 4);
        x.setGust(1, 9);
        x.setGust(400, 9);
        Due.is("minute 1", x.pass(1), 1);
        Scene.passLong(x, 398);
        x.light(0);
        Due.is("time", x.time(), 399);
        Due.is("minute 400", x.pass(1), 1);
        x.light(0);
        Due.is("minute 401", x.pass(1), 0);
        Due.is("later minutes", x.pass(60), 0);
        Due.is("blownOut", x.blownOut(), 2);
    }

    private static void gustToldLaterReplaces() {
        Festoon x = Scene.oneFloat(1);
        Scene.lightNew(x, 0, 0, 4);
        x.setGust(1, 9);
        Due.is("the strength that it had", x.setGust(1, 1), 9);
        Due.is("the weaker one comes", x.pass(1), 0);
        x.setGust(2, 1);
        Due.is("the strength that it had", x.setGust(2, 2), 1);
        Due.is("the stronger one comes", x.pass(1), 1);
        x.light(0);
        x.setGust(3, 9);
        Due.is("taken back by 0", x.setGust(3, 0), 9);
        Due.is("none comes", x.pass(1), 0);
    }

    private static void gustOfThePast() {
        Festoon x = Scene.oneFloat(1);
        Scene.lightNew(x, 0, 0, 4);
        x.pass(10);
        Due.is("told for a minute that has passed", x.setGust(10, 9), 0);
        Due.is("it has it", x.setGust(10, 8), 9);
        Due.is("and never comes", x.pass(60), 0);
    }

    private static void gustLeavesDarkAndBurntOnes() {
        Festoon x = Scene.oneFloat(1);
        Scene.lightNew(x, 0, 0, 1);
        Scene.hangNew(x, 0, 5, 1);
        x.make(4, 0, 1);
        x.pass(20);
        x.setGust(21, 9);
        Due.is("none was lit", x.pass(1), 0);
        Due.is("burnt", x.stateOf(0), Festoon.BURNT);
        Due.is("dark", x.stateOf(1), Festoon.DARK);
        Due.is("blownOut", x.blownOut(), 0);
    }

    /** "Then the candles of lit lanterns have a minute less; with none left, they are burnt down." */
    private static void candleOfEverySize() {
        for (int candle = 1; candle <= 4; candle++) {
            Festoon x = Scene.oneFloat(1);
            Scene.lightNew(x, 0, 0, candle);
            Scene.passLong(x, 20 * candle - 1);
            Due.is("a minute left", x.left(0), 1);
            Due.is("lit still", x.stateOf(0), Festoon.LIT);
            Due.is("the last minute", x.pass(1), 1);
            Due.is("none left", x.left(0), 0);
            Due.is("burnt down", x.stateOf(0), Festoon.BURNT);
            Due.is("once", x.pass(60), 0);
            Due.is("never below 0", x.left(0), 0);
        }
    }

    private static void onlyLitCandlesBurn() {
        Festoon x = Scene.oneFloat(1);
        x.build(1, 9999);
        x.make(4, 0, 1);
        Scene.hangNew(x, 1, 0, 1);
        Scene.hangNew(x, 0, 9, 1);
        Scene.lightNew(x, 0, 0, 1);
        x.pass(5);
        Due.is("hung on none", x.left(0), 20);
        Due.is("ashore", x.left(1), 20);
        Due.is("dark on the river", x.left(2), 20);
        Due.is("lit", x.left(3), 15);
        x.putOut(3);
        x.pass(5);
        Due.is("put out", x.left(3), 15);
    }

    /** "one becomes dark, if a lit one with a lower number is nearer than it may be" */
    private static void marshalForEverySum() {
        for (int one = 1; one <= 4; one++) {
            for (int other = 1; other <= 4; other++) {
                for (int base = 1; base <= 9; base++) {
                    String what = "candles " + one + " and " + other + ", base " + base;
                    Festoon x = Scene.twoApart(one + other + base, one, other);
                    x.light(0);
                    x.light(1);
                    x.setRules(1, base);
                    Due.is(what + ", as far as the sum", x.pass(1), 0);
                    Due.is(what, x.ordered(), 0);
                    Festoon y = Scene.twoApart(one + other + base - 1, one, other);
                    y.light(1);
                    y.light(0);
                    y.setRules(1, base);
                    Due.is(what + ", a metre nearer", y.pass(1), 1);
                    Due.is(what + ", lower", y.stateOf(0), Festoon.LIT);
                    Due.is(what + ", higher", y.stateOf(1), Festoon.DARK);
                    Due.is(what, y.ordered(), 1);
                }
            }
        }
    }

    private static void marshalLeavesTheLowerNumber() {
        Festoon x = Scene.oneFloat(1);
        Scene.hangNew(x, 0, 7, 1);
        Scene.lightNew(x, 0, 5, 1);
        Scene.lightNew(x, 0, 3, 1);
        x.light(0);
        x.setRules(2, 9);
        Due.is("two of three", x.pass(1), 2);
        Due.is("lowest number, in the highest slot, lit last", x.stateOf(0), Festoon.LIT);
        Due.is("the others", x.stateOf(1) + x.stateOf(2), 2 * Festoon.DARK);
    }

    private static void marshalSeesOnlyLitOnes() {
        Festoon x = Scene.oneFloat(1);
        Scene.lightNew(x, 0, 0, 1);
        x.pass(10);
        Scene.lightNew(x, 0, 4, 1);
        Scene.lightNew(x, 0, 7, 1);
        x.putOut(1);
        x.setRules(2, 6);
        Due.is("7 metres, 8 are due", x.pass(1), 1);
        x.setRules(2, 0);
        x.light(2);
        x.setRules(2, 6);
        x.putOut(0);
        Due.is("dark ones of lower number", x.pass(1), 0);
        Due.is("ordered", x.ordered(), 1);
        x.putOut(2);
        x.light(0);
        x.pass(9);
        Due.is("burnt down", x.stateOf(0), Festoon.BURNT);
        x.light(2);
        Due.is("a burnt one of lower number", x.pass(1), 0);
    }

    /** "minutes: 1 to 60" */
    private static void passOfOneAndSixty() {
        Festoon x = new Festoon();
        Due.throwing("pass(0)", Due.ARGUMENT, () -> x.pass(0));
        Due.throwing("pass(61)", Due.ARGUMENT, () -> x.pass(61));
        Due.throwing("pass(-60)", Due.ARGUMENT, () -> x.pass(-60));
        Due.is("no time went by", x.time(), 0);
        x.pass(1);
        Due.is("one", x.time(), 1);
        x.pass(60);
        Due.is("sixty more", x.time(), 61);
    }

    private static void sixtyOnceIsOneSixtyTimes() {
        Festoon x = Scene.mixed();
        Festoon y = Scene.mixed();
        int atOnce = x.pass(60);
        int oneByOne = 0;
        for (int i = 0; i < 60; i++) {
            oneByOne += y.pass(1);
        }
        Due.is("lanterns not lit any more", atOnce, oneByOne);
        Due.is("all answers", Scene.answers(x), Scene.answers(y));
    }

    private static void passWithNothingThere() {
        Festoon x = new Festoon();
        x.setGust(1, 9);
        Due.is("no lanterns, no floats", x.pass(60), 0);
        x.build(9, 9999);
        Scene.hangNew(x, 0, 0, 1);
        Due.is("a float ashore", x.pass(60), 0);
        Due.is("it stays ashore", x.sortOf(0), Festoon.ASHORE);
        Due.is("without a front", x.front(0), Festoon.NONE);
    }

    /** "how many lit lanterns are not lit any more by that" */
    private static void passCountsEachLanternOnce() {
        Festoon x = Scene.oneFloat(1);
        Scene.lightNew(x, 0, 0, 1);
        Scene.lightNew(x, 0, 9, 2);
        Scene.lightNew(x, 0, 4, 1);
        x.setRules(2, 1);
        x.setGust(30, 9);
        Due.is("4 metres, 3 are due: none ordered", x.pass(1), 0);
        x.setRules(2, 3);
        Due.is("ordered, burnt down, blown out", x.pass(59), 3);
        Due.is("ordered", x.ordered(), 1);
        Due.is("blown out", x.blownOut(), 1);
        Due.is("burnt down", x.stateOf(0), Festoon.BURNT);
        Due.is("none was lit", x.pass(60), 0);
    }
}
