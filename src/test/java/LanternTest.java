/** Promises 1 to 6 and 13 to 16: lanterns, made, hung, taken down, lit and put out. */
public final class LanternTest {
    public static void main(String[] args) {
        promise1NewObject();
        promise2Make();
        promise3Hang();
        promise3HangRefuses();
        promise3HangByOne();
        promise3HangNamesTheFirst();
        promise4TakeDown();
        promise5Light();
        promise5LightKeepsDistances();
        promise6PutOut();
        promise13Lanterns();
        promise14StateOf();
        promise15Left();
        promise16PlaceOf();
        Due.end();
    }

    private static void promise1NewObject() {
        Festoon x = new Festoon();
        Due.is("time of a new object", x.time(), 0);
        Due.is("lanterns of a new object", x.lanterns(), 0);
        Due.is("blownOut of a new object", x.blownOut(), 0);
        Due.is("ordered of a new object", x.ordered(), 0);
        Due.is("prize of a new object", x.prize(0), Festoon.NONE);
        Due.throwing("stateOf(0) of a new object", Due.INDEX, () -> x.stateOf(0));
        Due.throwing("sortOf(0) of a new object", Due.INDEX, () -> x.sortOf(0));
        Due.is("the first gap", x.setRules(5, 5), 2);
        Due.is("the gap of another new object", new Festoon().setRules(3, 3), 2);
    }

    private static void promise2Make() {
        Festoon x = new Festoon();
        int[][] bad = {{3, 0, 1}, {13, 0, 1}, {4, -1, 1}, {4, 4, 1}, {4, 0, 0}, {4, 0, 5},
            {Integer.MIN_VALUE, 0, 1}, {4, Integer.MAX_VALUE, 1}, {4, 0, Integer.MAX_VALUE}};
        refuseMakes(x, bad);
        Due.is("nothing made by a call that throws", x.lanterns(), 0);
        for (int i = 0; i < 24; i++) {
            Due.is("make " + i, x.make(4 + i % 9, i % 4, 1 + i % 4), i);
        }
        Due.throwing("the 25th lantern", Due.STATE, () -> x.make(4, 0, 1));
        refuseMakes(x, bad);
        Due.is("lanterns when full", x.lanterns(), 24);
        Due.is("the last one is there", x.left(23), 80);
        Due.throwing("there is no 24", Due.INDEX, () -> x.left(24));
    }

    private static void refuseMakes(Festoon x, int[][] bad) {
        for (int[] b : bad) {
            Due.throwing("make(" + b[0] + ", " + b[1] + ", " + b[2] + ")", Due.ARGUMENT,
                    () -> x.make(b[0], b[1], b[2]));
        }
    }

    private static void promise3Hang() {
        Festoon x = new Festoon();
        x.build(1, 9999);
        x.build(1, 9999);
        x.make(4, 0, 1);
        x.make(12, 3, 4);
        x.make(7, 2, 3);
        x.make(5, 1, 2);
        Due.is("hang the lightest", x.hang(0, 0, 0), 130);
        Due.is("hang the heaviest in slot 9", x.hang(1, 0, 9), 660);
        x.launch(0);
        Due.is("hang on a float on the river", x.hang(2, 0, 4), 1010);
        Due.is("hang on the other float", x.hang(3, 1, 4), 230);
        Due.throwing("slot 0 is taken", Due.ARGUMENT, () -> x.hang(3, 0, 0));
        Due.throwing("slot 9 is taken", Due.ARGUMENT, () -> x.hang(3, 0, 9));
        Due.is("a hung lantern is dark", x.stateOf(2), Festoon.DARK);
    }

    private static void promise3HangRefuses() {
        Festoon x = new Festoon();
        x.build(9, 330);
        x.build(9, 9999);
        x.make(4, 0, 1);
        x.make(5, 0, 2);
        x.make(10, 0, 1);
        x.make(4, 0, 1);
        int[][] noSuch = {{-1, 0, 0}, {4, 0, 0}, {24, 0, 0}, {0, -1, 0}, {0, 2, 0}, {0, 8, 0},
            {0, 0, -1}, {0, 0, 10}, {Integer.MAX_VALUE, 0, 0}, {0, Integer.MIN_VALUE, 0}};
        for (int[] b : noSuch) {
            Due.throwing("hang(" + b[0] + ", " + b[1] + ", " + b[2] + ")", Due.INDEX,
                    () -> x.hang(b[0], b[1], b[2]));
        }
        Due.is("load after refused calls", x.load(0), 0);
        x.hang(0, 0, 3);
        Due.throwing("a slot that has a lantern", Due.ARGUMENT, () -> x.hang(1, 0, 3));
        Due.throwing("a lantern that hangs", Due.STATE, () -> x.hang(0, 0, 4));
        Due.throwing("a lantern that hangs elsewhere", Due.STATE, () -> x.hang(0, 1, 4));
        Due.is("exactly what it bears", x.hang(1, 0, 4), 330);
        Due.throwing("more than it bears", Due.STATE, () -> x.hang(3, 0, 5));
        x.takeDown(1);
        Due.throwing("50 more than it bears", Due.STATE, () -> x.hang(2, 0, 5));
        Due.is("load after a refusal", x.load(0), 130);
        x.launch(1);
        x.pass(60);
        Due.is("gone", x.sortOf(1), Festoon.GONE);
        Due.throwing("a float that is gone", Due.STATE, () -> x.hang(1, 1, 0));
    }

    private static void promise3HangByOne() {
        Festoon x = new Festoon();
        x.make(4, 0, 1);
        x.build(1, 129);
        x.build(1, 130);
        Due.throwing("one more than it bears", Due.STATE, () -> x.hang(0, 0, 0));
        Due.is("just what it bears", x.hang(0, 1, 0), 130);
    }

    private static void promise3HangNamesTheFirst() {
        Festoon x = new Festoon();
        x.build(9, 200);
        x.make(4, 0, 1);
        x.make(12, 3, 4);
        x.hang(0, 0, 3);
        Due.throwing("no such lantern, and a slot that has one", Due.INDEX, () -> x.hang(9, 0, 3));
        Due.throwing("slot taken, lantern hangs", Due.ARGUMENT, () -> x.hang(0, 0, 3));
        Due.throwing("slot taken, too heavy", Due.ARGUMENT, () -> x.hang(1, 0, 3));
        x.launch(0);
        x.pass(60);
        Due.throwing("slot taken, float gone", Due.ARGUMENT, () -> x.hang(1, 0, 3));
        Due.throwing("no such slot, float gone", Due.INDEX, () -> x.hang(1, 0, 10));
    }

    private static void promise4TakeDown() {
        Festoon x = new Festoon();
        x.build(1, 9999);
        x.build(1, 9999);
        x.make(4, 0, 1);
        x.make(4, 0, 1);
        Due.throwing("takeDown(-1)", Due.INDEX, () -> x.takeDown(-1));
        Due.throwing("takeDown(2)", Due.INDEX, () -> x.takeDown(2));
        Due.throwing("takeDown of one that hangs on none", Due.STATE, () -> x.takeDown(0));
        x.hang(0, 1, 5);
        Due.is("takeDown answers the float", x.takeDown(0), 1);
        Due.is("load after takeDown", x.load(1), 0);
        Due.throwing("takeDown twice", Due.STATE, () -> x.takeDown(0));
        Due.is("the slot is free again", x.hang(1, 1, 5), 130);
        Due.is("the lantern may hang again", x.hang(0, 0, 0), 130);
        x.launch(0);
        x.light(0);
        x.pass(3);
        Due.is("takeDown of a lit one", x.takeDown(0), 0);
        Due.is("it is dark then", x.stateOf(0), Festoon.DARK);
        Due.is("what it burned is gone", x.left(0), 17);
        Due.is("it has no place then", x.placeOf(0), Festoon.NONE);
        x.hang(0, 0, 9);
        x.light(0);
        x.pass(17);
        Due.is("burnt down", x.stateOf(0), Festoon.BURNT);
        Due.is("takeDown of a burnt one", x.takeDown(0), 0);
        Due.is("it stays burnt down", x.stateOf(0), Festoon.BURNT);
        Due.is("a burnt one may hang", x.hang(0, 0, 2), 130);
    }

    private static void promise5Light() {
        Festoon x = new Festoon();
        x.build(9, 9999);
        x.build(9, 9999);
        for (int candle = 1; candle <= 4; candle++) {
            x.make(4, 0, candle);
        }
        Due.throwing("light(-1)", Due.INDEX, () -> x.light(-1));
        Due.throwing("light(4)", Due.INDEX, () -> x.light(4));
        Due.throwing("light one that hangs on none", Due.STATE, () -> x.light(0));
        x.hang(0, 0, 9);
        Due.throwing("light one ashore", Due.STATE, () -> x.light(0));
        Due.is("a refused one stays dark", x.stateOf(0), Festoon.DARK);
        x.launch(0);
        Due.is("light", x.light(0), 20);
        Due.is("it is lit then", x.stateOf(0), Festoon.LIT);
        Due.throwing("light a lit one", Due.STATE, () -> x.light(0));
        x.pass(4);
        x.putOut(0);
        Due.is("light again", x.light(0), 16);
        x.pass(16);
        Due.throwing("light a burnt one", Due.STATE, () -> x.light(0));
        x.hang(1, 0, 0);
        x.pass(60);
        Due.is("gone", x.sortOf(0), Festoon.GONE);
        Due.throwing("light one on a float that is gone", Due.STATE, () -> x.light(1));
    }

    private static void promise5LightKeepsDistances() {
        Festoon x = new Festoon();
        x.build(1, 9999);
        x.make(4, 0, 1);
        x.make(4, 0, 3);
        x.make(4, 0, 1);
        x.hang(0, 0, 4);
        x.hang(1, 0, 8);
        x.hang(2, 0, 1);
        x.launch(0);
        x.light(1);
        Due.is("at the very sum of both candles", x.light(0), 20);
        x.putOut(0);
        x.setRules(2, 1);
        Due.throwing("nearer than the sum and the base", Due.STATE, () -> x.light(0));
        Due.is("far enough behind", x.light(2), 20);
        x.setRules(2, 0);
        Due.is("ahead 3, behind 4", x.light(0), 20);
        x.putOut(0);
        x.setRules(2, 1);
        x.putOut(1);
        Due.is("ahead 3, none behind, base 1", x.light(0), 20);
        Due.throwing("a lit one with a lower number is too near", Due.STATE, () -> x.light(1));
        x.putOut(0);
        Due.is("dark ones keep no distance", x.light(1), 60);
        x.setRules(2, 9);
        Due.is("new rules darken none at once", x.stateOf(2), Festoon.LIT);
    }

    private static void promise6PutOut() {
        Festoon x = new Festoon();
        x.build(1, 9999);
        x.make(4, 0, 2);
        Due.throwing("putOut(-1)", Due.INDEX, () -> x.putOut(-1));
        Due.throwing("putOut(1)", Due.INDEX, () -> x.putOut(1));
        Due.throwing("putOut of a dark one", Due.STATE, () -> x.putOut(0));
        x.hang(0, 0, 0);
        x.launch(0);
        x.light(0);
        x.pass(1);
        Due.is("putOut", x.putOut(0), 39);
        Due.is("it is dark then", x.stateOf(0), Festoon.DARK);
        Due.is("it hangs still", x.load(0), 180);
        Due.throwing("putOut twice", Due.STATE, () -> x.putOut(0));
        x.light(0);
        x.pass(39);
        Due.is("burnt down", x.stateOf(0), Festoon.BURNT);
        Due.throwing("putOut of a burnt one", Due.STATE, () -> x.putOut(0));
        Due.is("neither gust nor marshal", x.blownOut() + x.ordered(), 0);
    }

    private static void promise13Lanterns() {
        Festoon x = new Festoon();
        x.make(4, 0, 1);
        Due.is("lanterns", x.lanterns(), 1);
        x.make(4, 0, 1);
        x.build(1, 100);
        Due.is("lanterns", x.lanterns(), 2);
    }

    private static void promise14StateOf() {
        Festoon x = new Festoon();
        x.make(4, 0, 1);
        Due.is("stateOf a new one", x.stateOf(0), Festoon.DARK);
        for (int bad : new int[] {-1, 1, 23, 24, Integer.MIN_VALUE, Integer.MAX_VALUE}) {
            Due.throwing("stateOf(" + bad + ")", Due.INDEX, () -> x.stateOf(bad));
        }
        x.build(1, 9999);
        x.hang(0, 0, 0);
        x.launch(0);
        x.light(0);
        Due.is("stateOf a lit one", x.stateOf(0), Festoon.LIT);
        x.pass(19);
        Due.is("stateOf a minute before the end", x.stateOf(0), Festoon.LIT);
        x.pass(1);
        Due.is("stateOf a burnt one", x.stateOf(0), Festoon.BURNT);
    }

    private static void promise15Left() {
        Festoon x = new Festoon();
        for (int candle = 1; candle <= 4; candle++) {
            Due.is("left of candle " + candle, x.left(x.make(4, 0, candle)), 20 * candle);
        }
        for (int bad : new int[] {-1, 4, 24, Integer.MIN_VALUE, Integer.MAX_VALUE}) {
            Due.throwing("left(" + bad + ")", Due.INDEX, () -> x.left(bad));
        }
        x.build(1, 9999);
        x.hang(0, 0, 0);
        x.launch(0);
        x.pass(2);
        Due.is("a dark one burns nothing", x.left(0), 20);
        x.light(0);
        x.pass(19);
        Due.is("left after 19 minutes", x.left(0), 1);
        x.pass(2);
        Due.is("left of a burnt one", x.left(0), 0);
    }

    private static void promise16PlaceOf() {
        Festoon x = new Festoon();
        x.build(9, 9999);
        x.make(4, 0, 1);
        x.make(4, 0, 1);
        for (int bad : new int[] {-1, 2, 24, Integer.MIN_VALUE, Integer.MAX_VALUE}) {
            Due.throwing("placeOf(" + bad + ")", Due.INDEX, () -> x.placeOf(bad));
        }
        Due.is("one that hangs on none", x.placeOf(0), Festoon.NONE);
        x.hang(0, 0, 0);
        x.hang(1, 0, 9);
        Due.is("one ashore", x.placeOf(0), Festoon.NONE);
        x.launch(0);
        Due.is("slot 0 at launch", x.placeOf(0), 9);
        Due.is("slot 9 at launch", x.placeOf(1), 0);
        x.pass(54);
        Due.is("slot 0 later", x.placeOf(0), 495);
        Due.is("slot 9 later", x.placeOf(1), 486);
        x.pass(1);
        Due.is("one on a float that is gone", x.placeOf(0), Festoon.NONE);
    }
}
