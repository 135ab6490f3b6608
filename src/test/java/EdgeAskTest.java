/** The edges that promises 12 to 25 name: what is asked, from its least answer to its greatest. */
public final class EdgeAskTest {
    public static void main(String[] args) {
        promise12And13AskedOfNothing();
        promise14EveryWayToBeDark();
        promise15From0To80();
        promise16FromMetre0();
        promise16NoPlace();
        promise17NoPlaceThoughAnotherIsLit();
        promise17NoOtherIsLit();
        promise17Metre0AndFarthest();
        promise17FloatByFloat();
        promise17WithAllLanternsLit();
        promise19And20CountApart();
        promise21EverySort();
        promise22FromLaunchTo499();
        promise23LoadFromNothingToFull();
        promise24FromNoneToTen();
        promise24EachSlotByItself();
        promise24OnlyTheTenSlotsCount();
        promise25NoneOnTheRiver();
        promise25OneOnTheRiver();
        promise25OfSeveralTheFirstLaunched();
        promise25GreatestNotFirst();
        promise25WithNoLikenessAtAll();
        Due.end();
    }

    private static void bothAre(String what, Festoon x, int lantern, int want) {
        Due.is("nearest, " + what, x.nearest(lantern), want);
        Due.is("nearestOfAll, " + what, x.nearestOfAll(lantern), want);
    }

    private static void promise12And13AskedOfNothing() {
        Festoon x = new Festoon();
        Due.is("time", x.time(), 0);
        Due.is("lanterns", x.lanterns(), 0);
        Due.is("blownOut", x.blownOut(), 0);
        Due.is("ordered", x.ordered(), 0);
        x.pass(60);
        Due.is("lanterns after an hour", x.lanterns(), 0);
        Festoon full = Scene.full();
        Due.is("all lanterns", full.lanterns(), 24);
        full.takeDown(23);
        Due.is("one that is taken down counts still", full.lanterns(), 24);
        Due.is("another object", x.lanterns(), 0);
    }

    private static void promise14EveryWayToBeDark() {
        Festoon x = Scene.oneFloat(1);
        Scene.hangNew(x, 0, 0, 4);
        Due.is("hung", x.stateOf(0), Festoon.DARK);
        x.light(0);
        Due.is("lit", x.stateOf(0), Festoon.LIT);
        x.putOut(0);
        Due.is("put out", x.stateOf(0), Festoon.DARK);
        x.light(0);
        x.takeDown(0);
        Due.is("taken down", x.stateOf(0), Festoon.DARK);
        x.hang(0, 0, 9);
        x.light(0);
        x.setGust(1, 9);
        x.pass(1);
        Due.is("blown out", x.stateOf(0), Festoon.DARK);
        Scene.lightNew(x, 0, 0, 1);
        x.light(0);
        x.setRules(2, 9);
        x.pass(1);
        Due.is("the lower number stays", x.stateOf(0), Festoon.LIT);
        Due.is("ordered", x.stateOf(1), Festoon.DARK);
    }

    /** "Returns 0 to 80." */
    private static void promise15From0To80() {
        Festoon x = Scene.oneFloat(1);
        Scene.lightNew(x, 0, 0, 4);
        for (int left = 80; left > 0; left--) {
            Due.is("left", x.left(0), left);
            x.pass(1);
        }
        Due.is("none left", x.left(0), 0);
        x.takeDown(0);
        Due.is("none left when taken down", x.left(0), 0);
    }

    /** The metre 0 is a place; it is not NONE. */
    private static void promise16FromMetre0() {
        Festoon x = Scene.oneFloat(1);
        Scene.lightNew(x, 0, 9, 1);
        Due.is("the metre 0", x.placeOf(0), 0);
        Due.is("it can be lit there", x.stateOf(0), Festoon.LIT);
        x.pass(1);
        Due.is("the metre 1", x.placeOf(0), 1);
    }

    /** "NONE if it hangs on no float on the river" */
    private static void promise16NoPlace() {
        Festoon x = new Festoon();
        x.build(9, 9999);
        x.make(4, 0, 1);
        Due.is("hangs on none", x.placeOf(0), -1);
        x.hang(0, 0, 4);
        Due.is("on a float ashore", x.placeOf(0), -1);
        x.launch(0);
        Due.is("on the river", x.placeOf(0), 5);
        x.takeDown(0);
        Due.is("taken down on the river", x.placeOf(0), -1);
        x.hang(0, 0, 5);
        Due.is("hung again on the river", x.placeOf(0), 4);
        x.pass(55);
        Due.is("on a float that is gone", x.placeOf(0), -1);
        x.takeDown(0);
        Due.is("taken down from it", x.placeOf(0), -1);
    }

    /** "NONE if it has no place" */
    private static void promise17NoPlaceThoughAnotherIsLit() {
        Festoon x = Scene.mixed();
        Due.is("another is lit", x.stateOf(4), Festoon.LIT);
        bothAre("on a float that is gone", x, 0, Festoon.NONE);
        bothAre("ashore", x, 5, Festoon.NONE);
        bothAre("hangs on none", x, 6, Festoon.NONE);
        bothAre("a burnt one with a place", x, 1, 9);
        bothAre("a dark one with a place", x, 2, 5);
    }

    /** "or no other one is lit" */
    private static void promise17NoOtherIsLit() {
        Festoon x = Scene.oneFloat(1);
        Scene.hangNew(x, 0, 0, 1);
        bothAre("it is the only one, dark", x, 0, Festoon.NONE);
        x.light(0);
        bothAre("it is the only one, lit", x, 0, Festoon.NONE);
        Scene.hangNew(x, 0, 9, 1);
        bothAre("the other is dark", x, 0, Festoon.NONE);
        x.light(1);
        bothAre("the other is lit", x, 0, 9);
        x.putOut(0);
        bothAre("itself dark, the other lit", x, 0, 9);
        bothAre("itself lit, the other dark", x, 1, Festoon.NONE);
        x.pass(20);
        bothAre("the other is burnt down", x, 0, Festoon.NONE);
    }

    private static void promise17Metre0AndFarthest() {
        Festoon x = Scene.oneFloat(1);
        x.build(1, 9999);
        Scene.hangNew(x, 0, 0, 1);
        Scene.passLong(x, 490);
        x.launch(1);
        Scene.lightNew(x, 1, 9, 1);
        Due.is("the first place", x.placeOf(1), 0);
        Due.is("the last place", x.placeOf(0), 499);
        bothAre("from the last place to the first", x, 0, 499);
        x.putOut(1);
        x.light(0);
        bothAre("from the first place to the last", x, 1, 499);
    }

    /** "found from its own float on, float by float ahead and behind" */
    private static void promise17FloatByFloat() {
        Festoon x = new Festoon();
        for (int i = 0; i < 8; i++) {
            x.build(9, 9999);
        }
        for (int i = 0; i < 8; i++) {
            x.launch(i);
            Scene.hangNew(x, i, 4, 1);
            x.pass(4);
        }
        for (int lit = 0; lit < 8; lit++) {
            x.light(lit);
            for (int asked = 0; asked < 8; asked++) {
                int floats = asked < lit ? lit - asked : asked - lit;
                bothAre("lit on " + lit + ", asked on " + asked, x, asked,
                        floats == 0 ? Festoon.NONE : 36 * floats);
            }
            x.putOut(lit);
        }
    }

    private static void promise17WithAllLanternsLit() {
        Festoon x = new Festoon();
        for (int i = 0; i < 8; i++) {
            x.build(9, 9999);
        }
        for (int i = 0; i < 8; i++) {
            x.launch(i);
            Scene.lightNew(x, i, 0, 1);
            Scene.lightNew(x, i, 4, 1);
            Scene.lightNew(x, i, 8, 1);
            x.pass(2);
        }
        for (int i = 0; i < 24; i++) {
            Due.is("lit", x.stateOf(i), Festoon.LIT);
            bothAre("4 on its float, 10 to the next", x, i, 4);
        }
        x.takeDown(10);
        bothAre("8 on its float", x, 9, 8);
        x.takeDown(11);
        bothAre("slot 8 of the one ahead", x, 9, 10);
        x.takeDown(8);
        bothAre("slot 4 of the one ahead", x, 9, 14);
        x.takeDown(7);
        bothAre("slot 0 of the one ahead, and of the one behind", x, 9, 18);
    }

    private static void promise19And20CountApart() {
        Festoon x = Scene.oneFloat(1);
        Scene.lightNew(x, 0, 0, 4);
        Scene.hangNew(x, 0, 9, 1);
        for (int i = 1; i <= 3; i++) {
            x.setRules(2, 0);
            x.light(1);
            x.setRules(2, 9);
            x.pass(1);
            Due.is("ordered", x.ordered(), i);
            Due.is("blownOut", x.blownOut(), 0);
        }
        for (int i = 1; i <= 3; i++) {
            x.setGust(3 + i, 9);
            x.pass(1);
            Due.is("blownOut", x.blownOut(), i);
            Due.is("ordered", x.ordered(), 3);
            x.light(0);
        }
        x.pass(60);
        Due.is("the rest of its candle", x.left(0), 80 - 3 - 60);
        x.putOut(0);
        Due.is("put out counts for neither", x.blownOut() + x.ordered(), 6);
    }

    private static void promise21EverySort() {
        Festoon x = new Festoon();
        x.build(9, 100);
        Due.is("ashore", x.sortOf(0), 0);
        x.pass(60);
        Due.is("ashore after an hour", x.sortOf(0), 0);
        x.launch(0);
        Due.is("on the river", x.sortOf(0), 1);
        x.pass(60);
        Due.is("gone", x.sortOf(0), 2);
    }

    /** "the metre; NONE if it is not on the river" */
    private static void promise22FromLaunchTo499() {
        Festoon x = new Festoon();
        x.build(1, 100);
        Due.is("ashore", x.front(0), -1);
        x.launch(0);
        for (int metre = 9; metre < 499; metre += 49) {
            Due.is("front", x.front(0), metre);
            x.pass(49);
        }
        Due.is("the last metre", x.front(0), 499);
        x.pass(1);
        Due.is("gone", x.front(0), -1);
    }

    /** "the weight of all lanterns that hang on it, together" */
    private static void promise23LoadFromNothingToFull() {
        Festoon x = new Festoon();
        x.build(9, 5300);
        x.build(9, 5299);
        Due.is("nothing", x.load(0), 0);
        for (int i = 0; i < 20; i++) {
            x.make(12, 3, 4);
        }
        for (int i = 0; i < 10; i++) {
            Due.is("hang", x.hang(i, 0, i), 530 * (i + 1));
        }
        for (int i = 0; i < 9; i++) {
            x.hang(10 + i, 1, i);
        }
        Due.throwing("the tenth, 1 too heavy", Due.STATE, () -> x.hang(19, 1, 9));
        Due.is("nine", x.load(1), 4770);
        for (int i = 0; i < 10; i++) {
            x.takeDown(i);
            Due.is("load", x.load(0), 5300 - 530 * (i + 1));
        }
        Due.is("the other is as it was", x.load(1), 4770);
    }

    /** "Returns 0 to 10." */
    private static void promise24FromNoneToTen() {
        Festoon x = Scene.oneFloat(1);
        for (int slot = 0; slot <= 8; slot += 2) {
            Scene.lightNew(x, 0, slot, 1);
        }
        int lit = 1 + 4 + 16 + 64 + 256;
        Due.is("the very figure", x.likeness(0, lit), 10);
        Due.is("the other slots", x.likeness(0, 1023 - lit), 0);
        Due.is("figure 0", x.likeness(0, 0), 5);
        Due.is("figure 1023", x.likeness(0, 1023), 5);
    }

    /** "slot k counts 2 to the power of k" */
    private static void promise24EachSlotByItself() {
        int power = 1;
        for (int slot = 0; slot <= 9; slot++) {
            Festoon x = Scene.oneFloat(1);
            Scene.lightNew(x, 0, slot, 1);
            Due.is("slot " + slot + " alone", x.likeness(0, power), 10);
            Due.is("all but slot " + slot, x.likeness(0, 1023 - power), 0);
            Due.is("figure 0", x.likeness(0, 0), 9);
            Due.is("figure 1023", x.likeness(0, 1023), 1);
            x.putOut(0);
            Due.is("slot " + slot + ", dark", x.likeness(0, power), 9);
            Due.is("figure 0, dark", x.likeness(0, 0), 10);
            power = 2 * power;
        }
    }

    /** A figure has ten slots: more than 1023 is none, though its lower slots were right. */
    private static void promise24OnlyTheTenSlotsCount() {
        Festoon x = Scene.oneFloat(1);
        Scene.lightNew(x, 0, 0, 1);
        Due.throwing("1024 and slot 0", Due.ARGUMENT, () -> x.likeness(0, 1025));
        Due.throwing("2 to the power of 30", Due.ARGUMENT, () -> x.likeness(0, 1 << 30));
        Due.throwing("below 0, slot 0", Due.ARGUMENT, () -> x.likeness(0, -1023));
        Due.throwing("prize of 1025", Due.ARGUMENT, () -> x.prize(1025));
        Due.throwing("prize of -1023", Due.ARGUMENT, () -> x.prize(-1023));
    }

    /** "NONE if there is none" */
    private static void promise25NoneOnTheRiver() {
        Festoon x = new Festoon();
        Due.is("no floats", x.prize(0), Festoon.NONE);
        x.build(9, 100);
        Due.is("one ashore, figure 0", x.prize(0), Festoon.NONE);
        Due.is("one ashore, figure 1023", x.prize(1023), Festoon.NONE);
        x.launch(0);
        Due.is("one on the river", x.prize(1023), 0);
        x.pass(60);
        Due.is("one that is gone", x.prize(0), Festoon.NONE);
    }

    private static void promise25OneOnTheRiver() {
        Festoon x = new Festoon();
        for (int i = 0; i < 8; i++) {
            x.build(9, 100);
        }
        x.launch(7);
        for (int figure = 0; figure <= 1023; figure += 31) {
            Due.is("prize(" + figure + ")", x.prize(figure), 7);
        }
    }

    /** "of several the one that was launched first": neither the lowest nor the highest number. */
    private static void promise25OfSeveralTheFirstLaunched() {
        Festoon x = new Festoon();
        int[] order = {3, 0, 5, 1, 7, 2, 6, 4};
        for (int i = 0; i < 8; i++) {
            x.build(9, 100);
        }
        for (int raft : order) {
            x.launch(raft);
            x.pass(3);
            Due.is("all alike", x.prize(0), 3);
        }
        x.pass(28);
        for (int i = 0; i < 8; i++) {
            Due.is("the first that is left", x.prize(1023), order[i]);
            x.pass(3);
        }
        Due.is("all are gone", x.prize(1023), Festoon.NONE);
    }

    /** "with the greatest likeness" */
    private static void promise25GreatestNotFirst() {
        Festoon x = new Festoon();
        for (int i = 0; i < 3; i++) {
            x.build(9, 9999);
        }
        int[] order = {1, 2, 0};
        for (int raft : order) {
            x.launch(raft);
            x.pass(3);
        }
        Scene.lightNew(x, 0, 0, 1);
        Scene.lightNew(x, 0, 4, 1);
        Scene.lightNew(x, 2, 4, 1);
        Due.is("slots 0 and 4: the last", x.prize(17), 0);
        Due.is("slot 4: the one between", x.prize(16), 2);
        Due.is("slot 0: 9 and 9, the first", x.prize(1), 1);
        Due.is("no slot: the first", x.prize(0), 1);
        Due.is("all slots: the last", x.prize(1023), 0);
    }

    /** A likeness of 0 wins too, where no other is greater. */
    private static void promise25WithNoLikenessAtAll() {
        Festoon x = Scene.oneFloat(1);
        Due.is("likeness", x.likeness(0, 1023), 0);
        Due.is("prize", x.prize(1023), 0);
    }
}
