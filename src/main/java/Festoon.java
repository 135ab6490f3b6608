/**
 * A paper lantern maker, a river parade and a fire marshal.
 *
 * <p>Two facts hold at all times and are leaned on below: a lit lantern hangs on a float on the
 * river, and floats on the river never overlap (the gap is at least 1), so that each is wholly
 * behind the one launched before it.
 */
public final class Festoon {
    public static final int NONE = -1;
    public static final int DARK = 0, LIT = 1, BURNT = 2;
    public static final int ASHORE = 0, RIVER = 1, GONE = 2;

    private static final int MOST_LANTERNS = 24;
    private static final int MOST_RAFTS = 8;
    private static final int SLOTS = 10;
    private static final int ALL_SLOTS = 1023;
    private static final int FRONT_TO_REAR = 9;
    private static final int LAUNCH_FRONT = 9;
    private static final int RIVER_END = 500;
    private static final int MINUTES_A_SIZE = 20;
    private static final int LAST_GUST = 400;

    private final Lantern[] lanterns = new Lantern[MOST_LANTERNS];
    private final Raft[] rafts = new Raft[MOST_RAFTS];
    // No float is launched twice, so the gone ones may stay in this row and are passed over.
    private final Raft[] launched = new Raft[MOST_RAFTS];
    private final int[] gusts = new int[LAST_GUST + 1];
    private int made = 0;
    private int built = 0;
    private int launches = 0;
    private int now = 0;
    private int gap = 2;
    private int base = 0;
    private int darkByGusts = 0;
    private int darkByMarshal = 0;

    public Festoon() {
    }

    // ---- lanterns

    public int make(int ribs, int paper, int candle)
            throws IllegalArgumentException, IllegalStateException {
        if (!within(ribs, 4, 12) || !within(paper, 0, 3) || !within(candle, 1, 4)) {
            throw new IllegalArgumentException("ribs, paper or candle is out of range");
        }
        if (made >= lanterns.length) {
            throw new IllegalStateException("24 lanterns were made");
        }
        lanterns[made] = new Lantern(ribs, paper, candle);
        made++;
        return made - 1;
    }

    public int hang(int lantern, int raft, int slot)
            throws IndexOutOfBoundsException, IllegalArgumentException, IllegalStateException {
        Lantern hung = lanternNumbered(lantern);
        Raft bearer = raftNumbered(raft);
        if (!within(slot, 0, SLOTS - 1)) {
            throw new IndexOutOfBoundsException("no such slot");
        }
        if (bearer.lanternIn(slot) != null) {
            throw new IllegalArgumentException("the slot has a lantern");
        }
        if (hung.raft != null || bearer.sort == GONE) {
            throw new IllegalStateException("the lantern hangs on a float, or the float is gone");
        }
        if (bearer.weight() + hung.weight() > bearer.bears) {
            throw new IllegalStateException("the float would have more load than it bears");
        }
        bearer.put(hung, slot);
        return bearer.weight();
    }

    public int takeDown(int lantern) throws IndexOutOfBoundsException, IllegalStateException {
        Lantern taken = lanternNumbered(lantern);
        Raft bearer = taken.raft;
        if (bearer == null) {
            throw new IllegalStateException("the lantern hangs on no float");
        }
        bearer.free(taken);
        taken.darken();
        return bearer.number;
    }

    public int light(int lantern) throws IndexOutOfBoundsException, IllegalStateException {
        Lantern lit = lanternNumbered(lantern);
        if (lit.state != DARK || lit.place() == NONE || isCrowded(lit, MOST_LANTERNS)) {
            throw new IllegalStateException("the lantern cannot be lit");
        }
        lit.state = LIT;
        return lit.left;
    }

    public int putOut(int lantern) throws IndexOutOfBoundsException, IllegalStateException {
        Lantern out = lanternNumbered(lantern);
        if (out.state != LIT) {
            throw new IllegalStateException("the lantern is not lit");
        }
        out.darken();
        return out.left;
    }

    // ---- floats, gusts, minutes

    public int build(int speed, int bears) throws IllegalArgumentException, IllegalStateException {
        if (!within(speed, 1, 9) || !within(bears, 100, 9999)) {
            throw new IllegalArgumentException("speed or bears is out of range");
        }
        if (built >= rafts.length) {
            throw new IllegalStateException("8 floats were built");
        }
        rafts[built] = new Raft(built, speed, bears);
        built++;
        return built - 1;
    }

    public int launch(int raft) throws IndexOutOfBoundsException, IllegalStateException {
        Raft next = raftNumbered(raft);
        if (next.sort != ASHORE || !hasRoomToLaunch() || launches >= launched.length) {
            throw new IllegalStateException("the float is not ashore, or the last is too near");
        }
        next.sort = RIVER;
        next.front = LAUNCH_FRONT;
        next.order = launches;
        launched[launches] = next;
        launches++;
        return raftsOnRiver();
    }

    public int setRules(int gap, int base) throws IllegalArgumentException {
        if (!within(gap, 1, 20) || !within(base, 0, 9)) {
            throw new IllegalArgumentException("gap or base is out of range");
        }
        int before = this.gap;
        this.gap = gap;
        this.base = base;
        return before;
    }

    public int setGust(int minute, int strength) throws IllegalArgumentException {
        if (!within(minute, 1, LAST_GUST) || !within(strength, 0, 9)) {
            throw new IllegalArgumentException("minute or strength is out of range");
        }
        int before = gusts[minute];
        gusts[minute] = strength;
        return before;
    }

    public int pass(int minutes) throws IllegalArgumentException {
        if (!within(minutes, 1, 60)) {
            throw new IllegalArgumentException("minutes is out of range");
        }
        // Nothing lights a lantern while minutes pass, so the difference counts each one once.
        int before = litLanterns();
        for (int i = 0; i < minutes; i++) {
            passOne();
        }
        return before - litLanterns();
    }

    // ---- what is asked: lanterns

    public int time() {
        return now;
    }

    public int lanterns() {
        return made;
    }

    public int stateOf(int lantern) throws IndexOutOfBoundsException {
        Lantern asked = lanternNumbered(lantern);
        return asked.state;
    }

    public int left(int lantern) throws IndexOutOfBoundsException {
        Lantern asked = lanternNumbered(lantern);
        return asked.left;
    }

    public int placeOf(int lantern) throws IndexOutOfBoundsException {
        Lantern asked = lanternNumbered(lantern);
        return asked.place();
    }

    public int nearest(int lantern) throws IndexOutOfBoundsException {
        Lantern asked = lanternNumbered(lantern);
        Raft own = asked.raft;
        if (own == null || own.sort != RIVER) {
            return NONE;
        }
        int beside = own.nearestLit(asked);
        int ahead = nearestAhead(asked, own.order);
        int behind = nearestBehind(asked, own.order);
        return nearer(beside, nearer(ahead, behind));
    }

    public int nearestOfAll(int lantern) throws IndexOutOfBoundsException {
        Lantern asked = lanternNumbered(lantern);
        int best = NONE;
        if (asked.place() != NONE) {
            for (Lantern other : lanterns) {
                if (other != null && other != asked && other.state == LIT) {
                    best = nearer(best, asked.distanceTo(other));
                }
            }
        }
        return best;
    }

    public int blownOut() {
        return darkByGusts;
    }

    public int ordered() {
        return darkByMarshal;
    }

    // ---- what is asked: floats

    public int sortOf(int raft) throws IndexOutOfBoundsException {
        Raft asked = raftNumbered(raft);
        return asked.sort;
    }

    public int front(int raft) throws IndexOutOfBoundsException {
        Raft asked = raftNumbered(raft);
        return asked.sort == RIVER ? asked.front : NONE;
    }

    public int load(int raft) throws IndexOutOfBoundsException {
        Raft asked = raftNumbered(raft);
        return asked.weight();
    }

    public int likeness(int raft, int figure)
            throws IndexOutOfBoundsException, IllegalArgumentException {
        Raft asked = raftNumbered(raft);
        if (!within(figure, 0, ALL_SLOTS)) {
            throw new IllegalArgumentException("figure is out of range");
        }
        return asked.alike(figure);
    }

    public int prize(int figure) throws IllegalArgumentException {
        if (!within(figure, 0, ALL_SLOTS)) {
            throw new IllegalArgumentException("figure is out of range");
        }
        int winner = NONE;
        int most = NONE;
        for (Raft raft : launched) {
            // Only a greater likeness wins, so of equals the one launched first keeps the prize.
            if (raft != null && raft.sort == RIVER && raft.alike(figure) > most) {
                winner = raft.number;
                most = raft.alike(figure);
            }
        }
        return winner;
    }

    // ---- looking up

    private static boolean within(int value, int least, int most) {
        return value >= least && value <= most;
    }

    private Lantern lanternNumbered(int number) {
        Lantern found = within(number, 0, lanterns.length - 1) ? lanterns[number] : null;
        if (found == null) {
            throw new IndexOutOfBoundsException("no such lantern");
        }
        return found;
    }

    private Raft raftNumbered(int number) {
        Raft found = within(number, 0, rafts.length - 1) ? rafts[number] : null;
        if (found == null) {
            throw new IndexOutOfBoundsException("no such float");
        }
        return found;
    }

    private int litLanterns() {
        int count = 0;
        for (Lantern lantern : lanterns) {
            if (lantern != null && lantern.state == LIT) {
                count++;
            }
        }
        return count;
    }

    private int raftsOnRiver() {
        int count = 0;
        for (Raft raft : launched) {
            if (raft != null && raft.sort == RIVER) {
                count++;
            }
        }
        return count;
    }

    private boolean hasRoomToLaunch() {
        Raft last = null;
        for (Raft raft : launched) {
            if (raft != null && raft.sort == RIVER) {
                last = raft;
            }
        }
        return last == null || last.rear() >= LAUNCH_FRONT + gap;
    }

    // ---- a minute

    private void passOne() {
        now++;
        moveRafts();
        letRaftsGo();
        blowGust();
        burnCandles();
        sendMarshal();
    }

    private void moveRafts() {
        Raft ahead = null;
        for (Raft raft : launched) {
            if (raft != null && raft.sort == RIVER) {
                raft.moveBehind(ahead, gap);
                ahead = raft;
            }
        }
    }

    /** After all have moved, as the document orders: one that leaves still holds back the next. */
    private void letRaftsGo() {
        for (Raft raft : launched) {
            if (raft != null && raft.sort == RIVER && raft.front >= RIVER_END) {
                raft.sort = GONE;
                raft.darkenAll();
            }
        }
    }

    private void blowGust() {
        int strength = within(now, 1, LAST_GUST) ? gusts[now] : 0;
        for (Lantern lantern : lanterns) {
            if (lantern != null && lantern.state == LIT && lantern.firmness() < strength) {
                lantern.darken();
                darkByGusts++;
            }
        }
    }

    private void burnCandles() {
        for (Lantern lantern : lanterns) {
            if (lantern != null && lantern.state == LIT) {
                lantern.burnOneMinute();
            }
        }
    }

    private void sendMarshal() {
        for (int i = 0; i < lanterns.length; i++) {
            Lantern lantern = lanterns[i];
            if (lantern != null && lantern.state == LIT && isCrowded(lantern, i)) {
                lantern.darken();
                darkByMarshal++;
            }
        }
    }

    // ---- distances

    /** Whether a lit lantern with a number below the bound is nearer to this one than it may be. */
    private boolean isCrowded(Lantern lantern, int bound) {
        for (int i = 0; i < bound && i < lanterns.length; i++) {
            Lantern other = lanterns[i];
            if (other != null && other.state == LIT && isTooNear(lantern, other)) {
                return true;
            }
        }
        return false;
    }

    private boolean isTooNear(Lantern one, Lantern other) {
        return one.distanceTo(other) < one.candle + other.candle + base;
    }

    /** Floats do not overlap, so the first one ahead with a lit lantern has the nearest ahead. */
    private int nearestAhead(Lantern asked, int order) {
        int found = NONE;
        for (int i = Math.min(order, launched.length) - 1; i >= 0 && found == NONE; i--) {
            Raft raft = launched[i];
            if (raft != null) {
                found = raft.nearestLit(asked);
            }
        }
        return found;
    }

    private int nearestBehind(Lantern asked, int order) {
        int found = NONE;
        for (int i = Math.max(order, 0) + 1; i < launched.length && found == NONE; i++) {
            Raft raft = launched[i];
            if (raft != null) {
                found = raft.nearestLit(asked);
            }
        }
        return found;
    }

    /** The lesser of two distances, each of which may be NONE. */
    private static int nearer(int one, int other) {
        if (one == NONE || other == NONE) {
            return Math.max(one, other);
        }
        return Math.min(one, other);
    }

    private static final class Lantern {
        final int ribs;
        final int paper;
        final int candle;
        int state = DARK;
        int left;
        /** Null while the lantern hangs on no float. */
        Raft raft = null;
        int slot = NONE;

        Lantern(int ribs, int paper, int candle) {
            this.ribs = ribs;
            this.paper = paper;
            this.candle = candle;
            this.left = MINUTES_A_SIZE * candle;
        }

        int weight() {
            return 20 * ribs + 30 * paper + 50 * candle;
        }

        int firmness() {
            return paper + ribs / 3;
        }

        int place() {
            return raft == null || raft.sort != RIVER ? NONE : raft.front - slot;
        }

        /** To be asked only of two lanterns that have a place. */
        int distanceTo(Lantern other) {
            int metres = place() - other.place();
            return metres < 0 ? -metres : metres;
        }

        void darken() {
            if (state == LIT) {
                state = DARK;
            }
        }

        void burnOneMinute() {
            left--;
            if (left <= 0) {
                state = BURNT;
            }
        }
    }

    private static final class Raft {
        final int number;
        final int speed;
        final int bears;
        final Lantern[] slots = new Lantern[SLOTS];
        int sort = ASHORE;
        int front = NONE;
        /** How many floats were launched before it. */
        int order = NONE;

        Raft(int number, int speed, int bears) {
            this.number = number;
            this.speed = speed;
            this.bears = bears;
        }

        int rear() {
            return front - FRONT_TO_REAR;
        }

        /** The lantern in this slot, or null if it has none. */
        Lantern lanternIn(int slot) {
            return within(slot, 0, slots.length - 1) ? slots[slot] : null;
        }

        void put(Lantern lantern, int slot) {
            if (within(slot, 0, slots.length - 1)) {
                slots[slot] = lantern;
                lantern.raft = this;
                lantern.slot = slot;
            }
        }

        void free(Lantern lantern) {
            for (int k = 0; k < slots.length; k++) {
                if (slots[k] == lantern) {
                    slots[k] = null;
                }
            }
            lantern.raft = null;
            lantern.slot = NONE;
        }

        int weight() {
            int sum = 0;
            for (Lantern lantern : slots) {
                if (lantern != null) {
                    sum += lantern.weight();
                }
            }
            return sum;
        }

        /** Goes on as far as the float ahead, null if there is none, lets it. */
        void moveBehind(Raft ahead, int gap) {
            int reached = front + speed;
            if (ahead != null) {
                reached = Math.min(reached, ahead.rear() - gap);
            }
            // A gap that was made wider may ask for a place behind: the float stays then.
            front = Math.max(front, reached);
        }

        void darkenAll() {
            for (Lantern lantern : slots) {
                if (lantern != null) {
                    lantern.darken();
                }
            }
        }

        /** The distance of the nearest other lit lantern on this float, or NONE. */
        int nearestLit(Lantern asked) {
            int best = NONE;
            for (Lantern other : slots) {
                if (other != null && other != asked && other.state == LIT) {
                    best = nearer(best, asked.distanceTo(other));
                }
            }
            return best;
        }

        int alike(int figure) {
            int count = 0;
            for (int k = 0; k < slots.length; k++) {
                Lantern lantern = slots[k];
                boolean shines = lantern != null && lantern.state == LIT;
                boolean drawn = (figure >> k & 1) == 1;
                if (shines == drawn) {
                    count++;
                }
            }
            return count;
        }
    }
}
