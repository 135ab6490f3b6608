/** Promises 10 to 12, 19 and 20: gusts, and what a minute does, in its order. */
public final class MinuteTest {
    public static void main(String[] args) {
        promise10SetGust();
        promise11Pass();
        promise11PassCountsEveryWay();
        promise11GustBeforeCandle();
        promise11CandleBeforeMarshal();
        promise11MoveBeforeMarshal();
        promise11GoneBeforeGust();
        promise12Time();
        promise19BlownOut();
        promise19GustsOnlyToMinute400();
        promise20Ordered();
        promise20MarshalByRisingNumbers();
        Due.end();
    }

    /** A float of speed 1 on the river, with a lit lantern a row: ribs, paper, candle, slot. */
    private static Festoon parade(int[]... lanterns) {
        Festoon x = new Festoon();
        x.build(1, 9999);
        x.launch(0);
        for (int[] l : lanterns) {
            int number = x.make(l[0], l[1], l[2]);
            x.hang(number, 0, l[3]);
            x.light(number);
        }
        return x;
    }

    private static int[] lantern(int ribs, int paper, int candle, int slot) {
        return new int[] {ribs, paper, candle, slot};
    }

    private static void promise10SetGust() {
        Festoon x = new Festoon();
        int[][] bad = {{0, 1}, {401, 1}, {1, -1}, {1, 10}, {-1, 1}, {Integer.MAX_VALUE, 1},
            {Integer.MIN_VALUE, 1}, {1, Integer.MAX_VALUE}};
        for (int[] b : bad) {
            Due.throwing("setGust(" + b[0] + ", " + b[1] + ")", Due.ARGUMENT,
                    () -> x.setGust(b[0], b[1]));
        }
        Due.is("none told", x.setGust(1, 9), 0);
        Due.is("told before", x.setGust(1, 0), 9);
        Due.is("told to be 0", x.setGust(1, 3), 0);
        Due.is("the last minute", x.setGust(400, 5), 0);
        Due.is("the last minute again", x.setGust(400, 4), 5);
        Due.throwing("setGust(400, 10)", Due.ARGUMENT, () -> x.setGust(400, 10));
        Due.is("a call that throws tells nothing", x.setGust(400, 1), 4);
        x.pass(10);
        Due.is("a minute that has passed", x.setGust(1, 7), 3);
    }

    private static void promise11Pass() {
        Festoon x = parade(lantern(4, 0, 1, 0), lantern(4, 0, 1, 4), lantern(4, 0, 2, 8));
        for (int bad : new int[] {0, 61, -1, Integer.MIN_VALUE, Integer.MAX_VALUE}) {
            Due.throwing("pass(" + bad + ")", Due.ARGUMENT, () -> x.pass(bad));
        }
        Due.is("no time by a call that throws", x.time(), 0);
        Due.is("nothing happens", x.pass(19), 0);
        Due.is("two burn down", x.pass(1), 2);
        Due.is("a third", x.pass(60), 1);
        Due.is("none is left", x.pass(1), 0);
        Due.is("burnt", x.stateOf(0) + x.stateOf(1) + x.stateOf(2), 3 * Festoon.BURNT);
    }

    private static void promise11PassCountsEveryWay() {
        Festoon x = new Festoon();
        x.build(9, 9999);
        x.make(12, 3, 4);
        x.make(4, 0, 4);
        x.make(12, 3, 1);
        x.make(12, 3, 2);
        x.hang(0, 0, 0);
        x.hang(1, 0, 8);
        x.hang(2, 0, 6);
        x.launch(0);
        x.light(0);
        x.light(1);
        x.pass(25);
        x.putOut(1);
        x.light(2);
        x.hang(3, 0, 9);
        x.light(3);
        x.setRules(2, 1);
        x.setGust(27, 2);
        Due.is("ordered, burnt down and gone with the float", x.pass(30), 3);
        Due.is("put out counts not", x.stateOf(1), Festoon.DARK);
        Due.is("burnt", x.stateOf(2), Festoon.BURNT);
        Due.is("ordered", x.ordered(), 1);
        Due.is("blown out", x.blownOut(), 0);
        Due.is("dark with the float that is gone", x.stateOf(0), Festoon.DARK);
    }

    private static void promise11GustBeforeCandle() {
        Festoon x = parade(lantern(4, 0, 1, 0));
        x.setGust(20, 2);
        Due.is("blown out in its last minute", x.pass(20), 1);
        Due.is("it is dark, not burnt", x.stateOf(0), Festoon.DARK);
        Due.is("the minute is left", x.left(0), 1);
        Due.is("it burns down when lit again", x.light(0) + 10 * x.pass(1), 11);
        Due.is("burnt", x.stateOf(0), Festoon.BURNT);
    }

    private static void promise11CandleBeforeMarshal() {
        Festoon x = parade(lantern(4, 0, 1, 0), lantern(4, 0, 2, 3));
        x.pass(19);
        x.setRules(2, 1);
        Due.is("the lower one burns down first", x.pass(1), 1);
        Due.is("burnt", x.stateOf(0), Festoon.BURNT);
        Due.is("the marshal finds none too near", x.stateOf(1), Festoon.LIT);
        Due.is("ordered none", x.ordered(), 0);
    }

    private static void promise11MoveBeforeMarshal() {
        Festoon x = new Festoon();
        x.build(1, 9999);
        x.build(9, 9999);
        x.make(4, 0, 4);
        x.make(4, 0, 4);
        x.hang(0, 0, 9);
        x.hang(1, 1, 0);
        x.launch(0);
        x.pass(16);
        x.launch(1);
        x.light(0);
        Due.throwing("7 metres", Due.STATE, () -> x.light(1));
        x.pass(1);
        Due.is("close up", x.placeOf(0) - x.placeOf(1), 2);
        x.putOut(0);
        x.takeDown(0);
        x.hang(0, 0, 3);
        x.light(0);
        Due.is("8 metres", x.light(1), 80);
        Due.is("8 metres still", x.pass(1), 0);
        x.setRules(1, 0);
        Due.is("moved to 7 metres, then ordered", x.pass(1), 1);
        Due.is("the higher number", x.stateOf(1), Festoon.DARK);
        Due.is("its minute burned first", x.left(1), 78);
    }

    private static void promise11GoneBeforeGust() {
        Festoon x = new Festoon();
        x.build(9, 9999);
        x.make(4, 0, 4);
        x.make(4, 0, 1);
        x.hang(0, 0, 0);
        x.hang(1, 0, 9);
        x.launch(0);
        x.light(1);
        x.pass(20);
        x.light(0);
        x.pass(34);
        x.setGust(55, 9);
        Due.is("gone", x.pass(1), 1);
        Due.is("not by the gust", x.blownOut(), 0);
        Due.is("dark", x.stateOf(0), Festoon.DARK);
        Due.is("the minute is left", x.left(0), 46);
        Due.is("burnt down stays so", x.stateOf(1), Festoon.BURNT);
        Due.is("it hangs still", x.takeDown(0), 0);
    }

    private static void promise12Time() {
        Festoon x = new Festoon();
        x.pass(1);
        Due.is("time", x.time(), 1);
        x.pass(60);
        Due.is("time", x.time(), 61);
        Due.throwing("pass(61)", Due.ARGUMENT, () -> x.pass(61));
        x.make(4, 0, 1);
        Due.is("time", x.time(), 61);
        for (int i = 0; i < 400; i++) {
            x.pass(60);
        }
        Due.is("time", x.time(), 24061);
    }

    private static void promise19BlownOut() {
        Festoon x = parade(lantern(4, 0, 1, 0), lantern(5, 1, 1, 2), lantern(6, 0, 1, 4),
                lantern(12, 3, 1, 6));
        x.setGust(1, 1);
        x.setGust(2, 2);
        x.setGust(3, 3);
        x.setGust(4, 7);
        x.setGust(5, 8);
        Due.is("strength 1", x.pass(1), 0);
        Due.is("strength 2", x.pass(1), 1);
        Due.is("4 ribs, no paper", x.stateOf(0), Festoon.DARK);
        Due.is("blownOut", x.blownOut(), 1);
        Due.is("strength 3", x.pass(1), 2);
        Due.is("blownOut", x.blownOut(), 3);
        Due.is("strength 7", x.pass(1), 0);
        Due.is("strength 8", x.pass(1), 1);
        Due.is("blownOut", x.blownOut(), 4);
        x.light(0);
        x.setGust(6, 9);
        x.pass(1);
        Due.is("the same one once more", x.blownOut(), 5);
        Due.is("ordered none", x.ordered(), 0);
        x.setGust(7, 9);
        x.setGust(8, 9);
        x.pass(2);
        Due.is("dark ones are not blown out", x.blownOut(), 5);
        x.setGust(6, 9);
        x.light(0);
        Due.is("a gust of the past blows no more", x.pass(1), 0);
    }

    private static void promise19GustsOnlyToMinute400() {
        Festoon x = parade(lantern(4, 0, 4, 0));
        x.putOut(0);
        x.setGust(400, 9);
        for (int i = 0; i < 38; i++) {
            x.pass(10);
        }
        x.pass(19);
        x.light(0);
        Due.is("minute 400", x.pass(1), 1);
        x.light(0);
        Due.is("after minute 400", x.pass(60), 0);
        Due.is("blownOut", x.blownOut(), 1);
    }

    private static void promise20Ordered() {
        Festoon x = parade(lantern(4, 0, 1, 5), lantern(4, 0, 1, 7), lantern(4, 0, 1, 3));
        Due.is("all keep their distance", x.pass(1), 0);
        x.setRules(2, 1);
        Due.is("base 1", x.pass(1), 2);
        Due.is("the lowest stays lit", x.stateOf(0), Festoon.LIT);
        Due.is("ordered", x.ordered(), 2);
        x.setRules(2, 0);
        x.light(1);
        x.setRules(2, 1);
        x.pass(2);
        Due.is("the same one once more", x.ordered(), 3);
        Due.is("blown out none", x.blownOut(), 0);
    }

    private static void promise20MarshalByRisingNumbers() {
        Festoon x = parade(lantern(4, 0, 1, 2), lantern(4, 0, 1, 4), lantern(4, 0, 1, 6));
        x.setRules(2, 1);
        Due.is("one that became dark is near to none", x.pass(1), 1);
        Due.is("the first", x.stateOf(0), Festoon.LIT);
        Due.is("the second", x.stateOf(1), Festoon.DARK);
        Due.is("the third", x.stateOf(2), Festoon.LIT);
        Due.is("the second burned its minute", x.left(1), 19);
        x.setRules(2, 3);
        Due.is("5 metres are due, 4 are there", x.pass(1), 1);
        Due.is("the higher number", x.stateOf(2), Festoon.DARK);
        Due.is("ordered", x.ordered(), 2);
    }
}
