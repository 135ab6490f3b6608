/** Promises 17 and 18: the nearest lit lantern, found float by float and from all. */
public final class NearestTest {
    public static void main(String[] args) {
        nothingToFind();
        noSuchLantern();
        onTheSameFloat();
        aheadAndBehind();
        pastFloatsWithoutLight();
        aheadNearerThanBeside();
        afterTheFirstIsGone();
        Due.end();
    }

    private static void bothAre(String what, Festoon x, int lantern, int want) {
        Due.is("nearest, " + what, x.nearest(lantern), want);
        Due.is("nearestOfAll, " + what, x.nearestOfAll(lantern), want);
    }

    private static void hangNew(Festoon x, int raft, int slot) {
        x.hang(x.make(4, 0, 1), raft, slot);
    }

    private static void nothingToFind() {
        Festoon x = new Festoon();
        x.build(9, 9999);
        x.build(9, 9999);
        x.make(4, 0, 1);
        bothAre("hangs on none", x, 0, Festoon.NONE);
        hangNew(x, 0, 0);
        x.hang(0, 0, 9);
        bothAre("ashore", x, 0, Festoon.NONE);
        x.launch(0);
        bothAre("none is lit", x, 0, Festoon.NONE);
        x.light(0);
        bothAre("it alone is lit", x, 0, Festoon.NONE);
        bothAre("seen from the dark one", x, 1, 9);
        hangNew(x, 1, 0);
        bothAre("ashore, another lit", x, 2, Festoon.NONE);
        x.make(4, 0, 1);
        bothAre("hangs on none, another lit", x, 3, Festoon.NONE);
        x.pass(20);
        bothAre("the other is burnt down", x, 1, Festoon.NONE);
        x.launch(1);
        x.light(2);
        bothAre("a float behind", x, 0, 171);
        x.pass(35);
        Due.is("the first is gone", x.sortOf(0), Festoon.GONE);
        bothAre("on a float that is gone", x, 1, Festoon.NONE);
    }

    private static void noSuchLantern() {
        Festoon x = new Festoon();
        x.make(4, 0, 1);
        for (int bad : new int[] {-1, 1, 23, 24, Integer.MIN_VALUE, Integer.MAX_VALUE}) {
            Due.throwing("nearest(" + bad + ")", Due.INDEX, () -> x.nearest(bad));
            Due.throwing("nearestOfAll(" + bad + ")", Due.INDEX, () -> x.nearestOfAll(bad));
        }
    }

    private static void onTheSameFloat() {
        Festoon x = new Festoon();
        x.build(1, 9999);
        hangNew(x, 0, 4);
        hangNew(x, 0, 0);
        hangNew(x, 0, 7);
        hangNew(x, 0, 5);
        x.launch(0);
        x.light(1);
        bothAre("4 ahead", x, 0, 4);
        x.light(2);
        bothAre("3 behind", x, 0, 3);
        bothAre("the dark one beside counts not", x, 3, 2);
        bothAre("from the front", x, 1, 7);
        x.light(0);
        bothAre("itself lit", x, 0, 3);
        bothAre("from the front again", x, 1, 4);
        x.takeDown(0);
        bothAre("taken down", x, 1, 7);
    }

    /** Three floats close up behind a slow one, with a lantern on each. */
    private static Festoon threeFloats(int first, int second, int third) {
        Festoon x = new Festoon();
        x.build(9, 9999);
        x.build(9, 9999);
        x.build(1, 9999);
        x.launch(2);
        x.pass(11);
        x.launch(0);
        x.pass(11);
        x.launch(1);
        hangNew(x, 2, first);
        hangNew(x, 0, second);
        hangNew(x, 1, third);
        return x;
    }

    private static void aheadAndBehind() {
        Festoon x = threeFloats(9, 5, 0);
        Due.is("fronts", x.front(2) + 1000 * x.front(0) + 1000000 * x.front(1), 9020031);
        x.light(0);
        bothAre("ahead", x, 1, 7);
        bothAre("two ahead", x, 2, 13);
        x.light(2);
        bothAre("behind is nearer", x, 1, 6);
        bothAre("from the first", x, 0, 13);
        x.light(1);
        bothAre("from the first, between", x, 0, 7);
        bothAre("from the last", x, 2, 6);
        bothAre("ahead 7, behind 6", x, 1, 6);
        x.putOut(2);
        bothAre("ahead 7", x, 1, 7);
    }

    private static void pastFloatsWithoutLight() {
        Festoon x = threeFloats(0, 3, 9);
        x.light(0);
        bothAre("past the dark one ahead", x, 2, 31);
        x.putOut(0);
        x.light(2);
        bothAre("past the dark one behind", x, 0, 31);
        x.light(1);
        bothAre("the first of two behind", x, 0, 14);
    }

    private static void aheadNearerThanBeside() {
        Festoon x = threeFloats(9, 0, 0);
        hangNew(x, 0, 9);
        x.light(0);
        x.light(3);
        bothAre("9 beside, 2 ahead", x, 1, 2);
        x.light(2);
        bothAre("9 beside, 2 behind", x, 3, 2);
        x.putOut(0);
        bothAre("9 beside, 11 behind", x, 1, 9);
        x.light(1);
        bothAre("9 beside is lit, 2 behind", x, 3, 2);
    }

    private static void afterTheFirstIsGone() {
        Festoon x = new Festoon();
        x.build(9, 9999);
        x.build(9, 9999);
        x.build(9, 9999);
        hangNew(x, 0, 0);
        x.hang(x.make(4, 0, 4), 1, 0);
        x.hang(x.make(4, 0, 4), 2, 4);
        x.launch(0);
        x.pass(40);
        x.launch(1);
        x.pass(5);
        x.launch(2);
        x.light(0);
        x.light(1);
        x.light(2);
        bothAre("from the last", x, 2, 49);
        x.pass(10);
        Due.is("the first is gone", x.sortOf(0), Festoon.GONE);
        bothAre("from the second", x, 1, 49);
        bothAre("from the last, again", x, 2, 49);
    }
}
