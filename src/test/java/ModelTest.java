/**
 * All promises at once: long runs of calls, right and wrong ones, on the class and on the plain
 * model side by side. The runs are the same every time: the numbers come from a fixed row.
 */
public final class ModelTest {
    private static final int RUNS = 3000;
    private static final int CALLS = 512;
    private static final String[] ASKED = {"time", "lanterns", "stateOf", "left", "placeOf",
        "nearest", "nearestOfAll", "blownOut", "ordered", "sortOf", "front", "load", "likeness",
        "prize"};
    private static final int[] ODD = {-1, 24, 25, 8, 10, 61, 401, 1024, 10000,
        Integer.MIN_VALUE, Integer.MAX_VALUE};

    private final Festoon x = new Festoon();
    private final PlainParade model = new PlainParade();
    private final int longest;
    private final boolean calm;
    private long seed;

    private ModelTest(int run) {
        seed = 7919L * run + 17;
        longest = run % 3 == 0 ? 60 : run % 3 == 1 ? 12 : 3;
        calm = run % 2 == 0;
    }

    public static void main(String[] args) {
        for (int run = 0; run < RUNS; run++) {
            new ModelTest(run).play(run);
        }
        Due.end();
    }

    private int below(int bound) {
        seed = seed * 6364136223846793005L + 1442695040888963407L;
        return (int) ((seed >>> 33) % bound);
    }

    private int from(int least, int most) {
        int spread = below(40);
        if (spread == 0) {
            return ODD[below(ODD.length)];
        }
        if (spread == 1) {
            return below(2) == 0 ? least - 1 : most + 1;
        }
        return least + below(most - least + 1);
    }

    private void play(int run) {
        for (int call = 0; call < CALLS; call++) {
            int kind = below(100);
            if (call < 30 && kind >= 20) {
                prepare(run);
            } else if (kind < 45) {
                ask(run);
            } else {
                act(run, kind);
            }
        }
    }

    private void prepare(int run) {
        if (below(3) == 0) {
            compare(run, "build", from(1, 9), below(4) == 0 ? from(100, 999) : from(100, 9999), 0);
        } else {
            compare(run, "make", from(4, 12), from(0, 3), from(1, 4));
        }
    }

    private void ask(int run) {
        String name = ASKED[below(ASKED.length)];
        if (name.equals("likeness")) {
            compare(run, name, from(0, 7), from(0, 1023), 0);
        } else if (name.equals("prize")) {
            compare(run, name, from(0, 1023), 0, 0);
        } else if (name.equals("sortOf") || name.equals("front") || name.equals("load")) {
            compare(run, name, from(0, 7), 0, 0);
        } else {
            compare(run, name, from(0, 23), 0, 0);
        }
    }

    private void act(int run, int kind) {
        if (kind < 62) {
            compare(run, "light", from(0, 23), 0, 0);
        } else if (kind < 74) {
            compare(run, "hang", from(0, 23), from(0, 7), from(0, 9));
        } else if (kind < 77) {
            compare(run, "takeDown", from(0, 23), 0, 0);
        } else if (kind < 79) {
            compare(run, "putOut", from(0, 23), 0, 0);
        } else if (kind < 85) {
            compare(run, "launch", from(0, 7), 0, 0);
        } else if (kind < 88) {
            compare(run, "setRules", from(1, calm ? 3 : 20), from(0, calm ? 1 : 9), 0);
        } else if (kind < 90) {
            compare(run, "setGust", from(1, 400), from(0, calm ? 4 : 9), 0);
        } else if (kind < 98) {
            compare(run, "pass", from(1, longest), 0, 0);
        } else {
            prepare(run);
        }
    }

    private void compare(int run, String name, int a, int b, int c) {
        String want = model.call(name, a, b, c);
        String got = Due.outcome(() -> call(name, a, b, c));
        Due.is("run " + run + ": " + name + "(" + a + ", " + b + ", " + c + ")", got, want);
    }

    private int call(String name, int a, int b, int c) {
        switch (name) {
            case "make": return x.make(a, b, c);
            case "hang": return x.hang(a, b, c);
            case "takeDown": return x.takeDown(a);
            case "light": return x.light(a);
            case "putOut": return x.putOut(a);
            case "build": return x.build(a, b);
            case "launch": return x.launch(a);
            case "setRules": return x.setRules(a, b);
            case "setGust": return x.setGust(a, b);
            case "pass": return x.pass(a);
            case "time": return x.time();
            case "lanterns": return x.lanterns();
            case "stateOf": return x.stateOf(a);
            case "left": return x.left(a);
            case "placeOf": return x.placeOf(a);
            case "nearest": return x.nearest(a);
            case "nearestOfAll": return x.nearestOfAll(a);
            case "blownOut": return x.blownOut();
            case "ordered": return x.ordered();
            case "sortOf": return x.sortOf(a);
            case "front": return x.front(a);
            case "load": return x.load(a);
            case "likeness": return x.likeness(a, b);
            case "prize": return x.prize(a);
            default: throw new IllegalArgumentException(name);
        }
    }
}
