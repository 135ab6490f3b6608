import java.util.ArrayList;
import java.util.Arrays;
import java.util.List;

/**
 * The document once more, for the model test: written from its words alone, with numbers in rows
 * and the exceptions as texts, so that it shares no thought with the class under test.
 */
final class PlainParade {
    private static final String INDEX = "throws IndexOutOfBoundsException";
    private static final String ARGUMENT = "throws IllegalArgumentException";
    private static final String STATE = "throws IllegalStateException";

    private final List<int[]> kinds = new ArrayList<>();
    private final int[] state = new int[24];
    private final int[] left = new int[24];
    private final int[] on = new int[24];
    private final int[] slotOf = new int[24];
    private final List<int[]> floats = new ArrayList<>();
    private final int[] sort = new int[8];
    private final int[] fronts = new int[8];
    private final List<Integer> river = new ArrayList<>();
    private final int[] gusts = new int[100000];
    private int time = 0;
    private int gap = 2;
    private int base = 0;
    private int blown = 0;
    private int ordered = 0;

    PlainParade() {
        Arrays.fill(on, -1);
    }

    /** What the call of this name is due to answer, as Due.outcome would tell it. */
    String call(String name, int a, int b, int c) {
        switch (name) {
            case "make": return make(a, b, c);
            case "hang": return hang(a, b, c);
            case "takeDown": return takeDown(a);
            case "light": return light(a);
            case "putOut": return putOut(a);
            case "build": return build(a, b);
            case "launch": return launch(a);
            case "setRules": return setRules(a, b);
            case "setGust": return setGust(a, b);
            case "pass": return pass(a);
            case "time": return "" + time;
            case "lanterns": return "" + kinds.size();
            case "blownOut": return "" + blown;
            case "ordered": return "" + ordered;
            case "prize": return prize(a);
            case "sortOf": return isFloat(a) ? "" + sort[a] : INDEX;
            case "front": return !isFloat(a) ? INDEX : sort[a] == 1 ? "" + fronts[a] : "-1";
            case "load": return isFloat(a) ? "" + load(a) : INDEX;
            case "likeness": return !isFloat(a) ? INDEX : b < 0 || b > 1023 ? ARGUMENT : "" + alike(a, b);
            case "stateOf": return isLantern(a) ? "" + state[a] : INDEX;
            case "left": return isLantern(a) ? "" + left[a] : INDEX;
            case "placeOf": return isLantern(a) ? "" + place(a) : INDEX;
            case "nearest":
            case "nearestOfAll": return isLantern(a) ? "" + nearest(a) : INDEX;
            default: throw new IllegalStateException(name);
        }
    }

    private boolean isLantern(int a) {
        return a >= 0 && a < kinds.size();
    }

    private boolean isFloat(int a) {
        return a >= 0 && a < floats.size();
    }

    private String make(int ribs, int paper, int candle) {
        if (ribs < 4 || ribs > 12 || paper < 0 || paper > 3 || candle < 1 || candle > 4) {
            return ARGUMENT;
        }
        if (kinds.size() == 24) {
            return STATE;
        }
        left[kinds.size()] = candle * 20;
        kinds.add(new int[] {ribs, paper, candle});
        return "" + (kinds.size() - 1);
    }

    private int weight(int lantern) {
        int[] k = kinds.get(lantern);
        return 20 * k[0] + 30 * k[1] + 50 * k[2];
    }

    private int load(int raft) {
        int sum = 0;
        for (int i = 0; i < kinds.size(); i++) {
            sum += on[i] == raft ? weight(i) : 0;
        }
        return sum;
    }

    private String hang(int lantern, int raft, int slot) {
        if (!isLantern(lantern) || !isFloat(raft) || slot < 0 || slot > 9) {
            return INDEX;
        }
        for (int i = 0; i < kinds.size(); i++) {
            if (on[i] == raft && slotOf[i] == slot) {
                return ARGUMENT;
            }
        }
        if (on[lantern] >= 0 || sort[raft] == 2
                || load(raft) + weight(lantern) > floats.get(raft)[1]) {
            return STATE;
        }
        on[lantern] = raft;
        slotOf[lantern] = slot;
        return "" + load(raft);
    }

    private String takeDown(int lantern) {
        if (!isLantern(lantern)) {
            return INDEX;
        }
        if (on[lantern] < 0) {
            return STATE;
        }
        int raft = on[lantern];
        on[lantern] = -1;
        if (state[lantern] != 2) {
            state[lantern] = 0;
        }
        return "" + raft;
    }

    private boolean clash(int one, int other) {
        return Math.abs(place(one) - place(other))
                < kinds.get(one)[2] + kinds.get(other)[2] + base;
    }

    private String light(int lantern) {
        if (!isLantern(lantern)) {
            return INDEX;
        }
        if (place(lantern) < 0 || state[lantern] != 0) {
            return STATE;
        }
        for (int i = 0; i < kinds.size(); i++) {
            if (state[i] == 1 && clash(lantern, i)) {
                return STATE;
            }
        }
        state[lantern] = 1;
        return "" + left[lantern];
    }

    private String putOut(int lantern) {
        if (!isLantern(lantern)) {
            return INDEX;
        }
        if (state[lantern] != 1) {
            return STATE;
        }
        state[lantern] = 0;
        return "" + left[lantern];
    }

    private String build(int speed, int bears) {
        if (speed < 1 || speed > 9 || bears < 100 || bears > 9999) {
            return ARGUMENT;
        }
        if (floats.size() == 8) {
            return STATE;
        }
        floats.add(new int[] {speed, bears});
        return "" + (floats.size() - 1);
    }

    private String launch(int raft) {
        if (!isFloat(raft)) {
            return INDEX;
        }
        if (sort[raft] != 0) {
            return STATE;
        }
        if (!river.isEmpty() && fronts[river.get(river.size() - 1)] - 9 < 9 + gap) {
            return STATE;
        }
        sort[raft] = 1;
        fronts[raft] = 9;
        river.add(raft);
        return "" + river.size();
    }

    private String setRules(int newGap, int newBase) {
        if (newGap < 1 || newGap > 20 || newBase < 0 || newBase > 9) {
            return ARGUMENT;
        }
        String was = "" + gap;
        gap = newGap;
        base = newBase;
        return was;
    }

    private String setGust(int minute, int strength) {
        if (minute < 1 || minute > 400 || strength < 0 || strength > 9) {
            return ARGUMENT;
        }
        String was = "" + gusts[minute];
        gusts[minute] = strength;
        return was;
    }

    private String pass(int minutes) {
        if (minutes < 1 || minutes > 60) {
            return ARGUMENT;
        }
        int out = 0;
        for (int i = 0; i < minutes; i++) {
            out += minute();
        }
        return "" + out;
    }

    private int minute() {
        int out = 0;
        time++;
        for (int i = 0; i < river.size(); i++) {
            int raft = river.get(i);
            int to = fronts[raft] + floats.get(raft)[0];
            if (i > 0) {
                to = Math.min(to, fronts[river.get(i - 1)] - 9 - gap);
            }
            fronts[raft] = Math.max(to, fronts[raft]);
        }
        for (int raft : new ArrayList<>(river)) {
            if (fronts[raft] >= 500) {
                sort[raft] = 2;
                river.remove(Integer.valueOf(raft));
                for (int i = 0; i < kinds.size(); i++) {
                    if (on[i] == raft && state[i] == 1) {
                        state[i] = 0;
                        out++;
                    }
                }
            }
        }
        for (int i = 0; i < kinds.size(); i++) {
            if (state[i] == 1 && kinds.get(i)[1] + kinds.get(i)[0] / 3 < gusts[time]) {
                state[i] = 0;
                blown++;
                out++;
            }
        }
        for (int i = 0; i < kinds.size(); i++) {
            if (state[i] == 1 && --left[i] == 0) {
                state[i] = 2;
                out++;
            }
        }
        for (int i = 0; i < kinds.size(); i++) {
            for (int j = 0; j < i && state[i] == 1; j++) {
                if (state[j] == 1 && clash(i, j)) {
                    state[i] = 0;
                    ordered++;
                    out++;
                }
            }
        }
        return out;
    }

    private int place(int lantern) {
        int raft = on[lantern];
        return raft >= 0 && river.contains(raft) ? fronts[raft] - slotOf[lantern] : -1;
    }

    private int nearest(int lantern) {
        int best = -1;
        for (int i = 0; i < kinds.size() && place(lantern) >= 0; i++) {
            if (i != lantern && state[i] == 1) {
                int metres = Math.abs(place(i) - place(lantern));
                best = best < 0 || metres < best ? metres : best;
            }
        }
        return best;
    }

    private int alike(int raft, int figure) {
        int lit = 0;
        for (int i = 0; i < kinds.size(); i++) {
            lit |= on[i] == raft && state[i] == 1 ? 1 << slotOf[i] : 0;
        }
        return 10 - Integer.bitCount(lit ^ figure);
    }

    private String prize(int figure) {
        if (figure < 0 || figure > 1023) {
            return ARGUMENT;
        }
        int best = -1;
        for (int raft : river) {
            if (best < 0 || alike(raft, figure) > alike(best, figure)) {
                best = raft;
            }
        }
        return "" + best;
    }
}
