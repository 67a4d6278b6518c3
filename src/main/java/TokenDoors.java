import java.util.Arrays;

/** Doors in a row, each with a bucket, and the crowds that come to them tick by tick. */
public final class TokenDoors {

    public static final int BAD = -1, STATE = -2, FULL = -3, NONE = -4;

    private static final int TOKEN = 0, LEAK = 1, WINDOW = 2, HALF = 3;
    private static final int KIND = 0, DEPTH = 1, RATE = 2, HOLDS = 3;

    private static final int MOST_DOORS = 4, MOST_CROWDS = 8, MOST_DEPTH = 9, MOST_RATE = 9;
    private static final int LAST_START = 99, MOST_MANY = 9, MOST_EVERY = 9;
    private static final int MOST_RUN = 100, TICK_END = 1000, MOST_COUNTED = 99999;
    private static final int MOST_SEEN = 6, LAST_SEEN = 40, MOST_SEEN_LET = 72;
    private static final int MOST_CHANCES = 8, WHOLE_ODDS = 10;
    private static final int TAPE_SIZE = 160, IMAGES = 2, SHEETS = 4, MOST_CELLS = 40, MOST_READ = 13;

    private static final int NO_TOKEN = 1, MISPLACED = 2, OUT_OF_BOUNDS = 3, TOO_MANY = 5;
    private static final int NULL_FAULT = 1, INDEX_FAULT = 2, CAST_FAULT = 3, SIZE_FAULT = 4;
    private static final int FAULT_BASE = -10, REFUSED_BASE = -20;

    private final Hall now = new Hall();
    /** Every question about what would be is tried out here, so that no call makes a copy. */
    private final Hall trial = new Hall();
    private final Hall[] images = new Hall[IMAGES];
    private final boolean[] kept = new boolean[IMAGES];
    private final Tape tape = new Tape();
    private final Teller teller = new Teller(tape, trial);
    private final Seen seen = new Seen();
    private final Sheet[] sheets = new Sheet[SHEETS];
    /** How many are let by each rate of a door in each tick that can be counted. */
    private final int[][] letByRate = new int[MOST_RATE + 1][LAST_SEEN + 1];
    private final int[] letByTick = new int[LAST_SEEN + 1];
    private int readFault;

    public TokenDoors() {
        for (int k = 0; k < IMAGES; k++) {
            images[k] = new Hall();
        }
        for (int k = 0; k < SHEETS; k++) {
            sheets[k] = new Sheet();
        }
    }

    // ---- the text, what there is

    public int feed(int c) {
        if (c < 0 || c > 127) {
            return BAD;
        }
        return tape.append(c) ? tape.length : FULL;
    }

    public int end(int n) {
        if (n < 0 || n > tape.length) {
            return BAD;
        }
        int had = tape.length;
        tape.length = n;
        return had;
    }

    public int text() {
        int lines = teller.tellAll();
        tape.length = 0;
        if (teller.found != 0) {
            return FAULT_BASE - tape.start;
        }
        now.become(trial);
        seen.size = 0;
        for (int k = 0; k < IMAGES; k++) {
            kept[k] = false;
        }
        return lines;
    }

    public int fault() {
        return teller.found;
    }

    public int rule(int what) {
        switch (what) {
            case 0: return now.doorCount;
            case 1: return now.crowdCount;
            case 2: return now.tick;
            case 3: return now.let;
            case 4: return now.turned;
            case 5: return now.comers();
            case 6: return now.letters();
            default: return BAD;
        }
    }

    public int door(int d, int what) {
        if (!isDoor(d) || what < 0 || what > 4) {
            return BAD;
        }
        return what == 4 ? now.doors[d].room() : now.doors[d].told(what);
    }

    public int crowd(int i, int what) {
        if (i < 0 || i >= now.crowdCount) {
            return BAD;
        }
        switch (what) {
            case 0: return now.crowds[i].start;
            case 1: return now.crowds[i].many;
            case 2: return now.crowds[i].every;
            default: return BAD;
        }
    }

    // ---- what is changed

    public int alter(int d, int what, int v) {
        if (!isDoor(d) || !mayBecome(what, v)) {
            return BAD;
        }
        Door altered = now.doors[d];
        if (what == HOLDS && v > altered.depth) {
            return STATE;
        }
        int was = altered.told(what);
        altered.change(what, v);
        return was;
    }

    public int hang(int kind, int depth, int rate) {
        if (!mayBecome(KIND, kind) || !mayBecome(DEPTH, depth) || !mayBecome(RATE, rate)) {
            return BAD;
        }
        return now.addDoor(kind, depth, rate) ? now.doorCount : FULL;
    }

    public int cut(int n) {
        if (n < 0 || n > now.doorCount) {
            return BAD;
        }
        int were = now.doorCount;
        now.doorCount = n;
        return were;
    }

    public int come(int t, int many, int every) {
        if (!isCrowd(t, many, every)) {
            return BAD;
        }
        return now.addCrowd(t, many, every) ? now.crowdCount : FULL;
    }

    public int leave(int n) {
        if (n < 0 || n > now.crowdCount) {
            return BAD;
        }
        int were = now.crowdCount;
        now.crowdCount = n;
        return were;
    }

    public int pass() {
        int refuser = now.firstShut();
        now.admit(1);
        return refuser;
    }

    // ---- ticks

    public int ticks(int n) {
        if (!isRun(n)) {
            return BAD;
        }
        if (now.tick + n >= TICK_END) {
            return FULL;
        }
        return now.runOn(n);
    }

    public int runs(int n, int what) {
        if (!isRun(n) || what < 0 || what > 4) {
            return BAD;
        }
        startTrial();
        int troubled = 0;
        int worst = 0;
        for (int i = 0; i < n; i++) {
            int before = trial.turned;
            trial.tickOn();
            int turnedHere = trial.turned - before;
            troubled += turnedHere > 0 ? 1 : 0;
            worst = Math.max(worst, turnedHere);
        }
        switch (what) {
            case 0: return trial.let;
            case 1: return trial.turned;
            case 2: return troubled;
            case 3: return worst;
            default: return trial.heldByAll();
        }
    }

    public int ahead(int d, int n) {
        if (!isDoor(d) || !isRun(n)) {
            return BAD;
        }
        startTrial();
        trial.runOn(n);
        return trial.doors[d].holds;
    }

    public int lets(int n) {
        if (!isRun(n)) {
            return BAD;
        }
        startTrial();
        trial.runOn(n);
        return trial.tickOn();
    }

    public int turns(int d, int n) {
        if (!isDoor(d) || !isRun(n)) {
            return BAD;
        }
        startTrial();
        trial.runOn(n);
        return trial.doors[d].refused;
    }

    public int when() {
        startTrial();
        for (int n = 0; n <= MOST_RUN; n++) {
            trial.tickOn();
            if (trial.turned > 0) {
                return n;
            }
        }
        return NONE;
    }

    // ---- what is best

    public int depth(int d, int n) {
        if (!isDoor(d) || !isRun(n)) {
            return BAD;
        }
        return leastUnrefusing(d, DEPTH, n);
    }

    public int rate(int d, int n) {
        if (!isDoor(d) || !isRun(n)) {
            return BAD;
        }
        return leastUnrefusing(d, RATE, n);
    }

    public int swap(int n, int what) {
        if (!isRun(n) || !isChoice(what)) {
            return BAD;
        }
        int most = letAsItIs(n);
        int best = NONE;
        for (int lesser = 0; lesser < now.doorCount; lesser++) {
            for (int greater = lesser + 1; greater < now.doorCount; greater++) {
                startTrial();
                trial.exchange(lesser, greater);
                int got = trial.runOn(n);
                if (got > most) {
                    most = got;
                    best = 10 * lesser + greater;
                }
            }
        }
        return best == NONE || what == 0 ? best : most;
    }

    public int open(int n, int what) {
        if (!isRun(n) || !isChoice(what)) {
            return BAD;
        }
        int most = letAsItIs(n);
        int best = NONE;
        for (int d = 0; d < now.doorCount; d++) {
            startTrial();
            trial.doors[d].standsOpen = true;
            int got = trial.runOn(n);
            if (got > most) {
                most = got;
                best = d;
            }
        }
        return best == NONE || what == 0 ? best : most;
    }

    public int kind(int d, int n, int what) {
        if (!isDoor(d) || !isRun(n) || !isChoice(what)) {
            return BAD;
        }
        return bestChange(d, KIND, HALF, n, what);
    }

    public int fill(int d, int n, int what) {
        if (!isDoor(d) || !isRun(n) || !isChoice(what)) {
            return BAD;
        }
        return bestChange(d, HOLDS, now.doors[d].depth, n, what);
    }

    // ---- ticks in which nobody comes

    public long luck(int v, int n, int what) {
        if (!isOdds(v, n) || !isChoice(what)) {
            return BAD;
        }
        return part(weighAll(v, n, false), power(WHOLE_ODDS, n), what);
    }

    public long mean(int v, int n, int what) {
        if (!isOdds(v, n) || !isChoice(what)) {
            return BAD;
        }
        return part(weighAll(v, n, true), power(WHOLE_ODDS, n), what);
    }

    // ---- what was counted

    public int see(int n, int v) {
        if (n < 0 || n > LAST_SEEN || v < 0 || v > MOST_SEEN_LET) {
            return BAD;
        }
        return seen.add(n, v) ? seen.size : FULL;
    }

    public int forget(int n) {
        if (n < 0 || n > seen.size) {
            return BAD;
        }
        int were = seen.size;
        seen.size = n;
        return were;
    }

    public int kinds(int d) {
        return isDoor(d) ? fitting(d, KIND) : BAD;
    }

    public int depths(int d) {
        return isDoor(d) ? fitting(d, DEPTH) : BAD;
    }

    public int rates(int d) {
        return isDoor(d) ? fitting(d, RATE) : BAD;
    }

    public int ask(int d, int what) {
        if (!isDoor(d) || !isChoice(what)) {
            return BAD;
        }
        int fit = fitting(d, RATE);
        for (int v = 0; v <= MOST_RATE; v++) {
            startTrial();
            trial.doors[d].change(RATE, v);
            countLetByTick(letByRate[v]);
        }
        int fewest = Integer.bitCount(fit);
        int best = NONE;
        for (int t = 0; t <= LAST_SEEN; t++) {
            int left = leftAtWorst(fit, t);
            if (left < fewest) {
                fewest = left;
                best = t;
            }
        }
        return best == NONE || what == 0 ? best : fewest;
    }

    // ---- by a seed

    public int drift(int seed, int n, int what) {
        if (n < 1 || !isRun(n) || !isChoice(what)) {
            return BAD;
        }
        if (now.doorCount == 0) {
            return STATE;
        }
        startTrial();
        int grown = seed;
        for (int i = 0; i < n; i++) {
            grown = grown * 1103515245 + 12345;
            int got = (grown >>> 16) & 0x7fff;
            trial.tickWith(got % 10);
        }
        return what == 0 ? trial.let : trial.turned;
    }

    // ---- images, sheets

    public int keep(int k) {
        if (k < 0 || k >= IMAGES) {
            return BAD;
        }
        int was = kept[k] ? 1 : 0;
        images[k].become(now);
        kept[k] = true;
        return was;
    }

    public int back(int k) {
        if (k < 0 || k >= IMAGES) {
            return BAD;
        }
        if (!kept[k]) {
            return STATE;
        }
        now.become(images[k]);
        return now.tick;
    }

    public int sheet(int k, int lane, int n) {
        if (!isSheet(k) || !isLane(lane) || n > MOST_CELLS) {
            return BAD;
        }
        if (n < 0) {
            return FAULT_BASE - SIZE_FAULT;
        }
        sheets[k].renew(lane, n);
        return 1;
    }

    public int lay(int k, int i, int v) {
        if (!isSheet(k)) {
            return BAD;
        }
        int found = sheets[k].faultAt(i);
        if (found != 0) {
            return FAULT_BASE - found;
        }
        sheets[k].put(i, v);
        return 1;
    }

    public int read(int k, int lane, int f, int n) {
        if (!isSheet(k) || !isLane(lane) || n < 0 || n > MOST_READ) {
            return BAD;
        }
        Sheet source = sheets[k];
        int before = now.crowdCount;
        int found = 0;
        for (int i = 0; i < n && found == 0; i++) {
            int first = f + 3 * i;
            found = source.faultInThree(lane, first);
            if (found == 0 && !comesFrom(source, first)) {
                now.crowdCount = before;
                return REFUSED_BASE - i;
            }
        }
        readFault = found;
        return now.crowdCount - before;
    }

    public int torn() {
        return readFault;
    }

    public int count(int what) {
        switch (what) {
            case 0: return seen.size;
            case 1: return imagesKept();
            case 2: return tape.length;
            case 3: return sheets[0].laid ? sheets[0].size : NONE;
            case 4: return now.depthOfAll();
            case 5: return now.manyOfAll();
            default: return BAD;
        }
    }

    private int imagesKept() {
        int sum = 0;
        for (int k = 0; k < IMAGES; k++) {
            sum += kept[k] ? 1 : 0;
        }
        return sum;
    }

    // ---- what is asked of numbers

    private boolean isDoor(int d) {
        return d >= 0 && d < now.doorCount;
    }

    private static boolean isRun(int n) {
        return n >= 0 && n <= MOST_RUN;
    }

    private static boolean isChoice(int what) {
        return what == 0 || what == 1;
    }

    private static boolean isOdds(int v, int n) {
        return v >= 0 && v <= WHOLE_ODDS && n >= 0 && n <= MOST_CHANCES;
    }

    private static boolean isSheet(int k) {
        return k >= 0 && k < SHEETS;
    }

    private static boolean isLane(int lane) {
        return lane >= 0 && lane <= 2;
    }

    private static boolean isCrowd(int t, int many, int every) {
        return t >= 0 && t <= LAST_START && many >= 1 && many <= MOST_MANY
            && every >= 0 && every <= MOST_EVERY;
    }

    /** Asks of any door at all: that one holds more than its own depth is a matter of its state. */
    private static boolean mayBecome(int what, int v) {
        return what >= KIND && what <= HOLDS && v >= lowest(what) && v <= highest(what);
    }

    private static int lowest(int what) {
        return what == DEPTH ? 1 : 0;
    }

    private static int highest(int what) {
        if (what == KIND) {
            return HALF;
        }
        return what == RATE ? MOST_RATE : MOST_DEPTH;
    }

    // ---- trials

    private void startTrial() {
        trial.become(now);
        trial.countAnew();
    }

    private int letAsItIs(int n) {
        startTrial();
        return trial.runOn(n);
    }

    private int leastUnrefusing(int d, int what, int n) {
        for (int v = lowest(what); v <= highest(what); v++) {
            startTrial();
            trial.doors[d].change(what, v);
            trial.runOn(n);
            if (trial.doors[d].refused == 0) {
                return v;
            }
        }
        return NONE;
    }

    private int bestChange(int d, int changed, int last, int n, int what) {
        int most = -1;
        int best = 0;
        for (int v = 0; v <= last; v++) {
            startTrial();
            trial.doors[d].change(changed, v);
            int got = trial.runOn(n);
            if (got > most) {
                most = got;
                best = v;
            }
        }
        return what == 0 ? best : most;
    }

    private int fitting(int d, int what) {
        int bits = 0;
        for (int v = lowest(what); v <= highest(what); v++) {
            startTrial();
            trial.doors[d].change(what, v);
            countLetByTick(letByTick);
            if (seen.agreesWith(letByTick)) {
                bits |= 1 << v;
            }
        }
        return bits;
    }

    private void countLetByTick(int[] row) {
        for (int t = 0; t < row.length; t++) {
            row[t] = trial.tickOn();
        }
    }

    /** Each rate that fits may be the true one: the worst count is the one that most of them share. */
    private int leftAtWorst(int fit, int t) {
        int worst = 0;
        for (int v = 0; v <= MOST_RATE; v++) {
            if ((fit >> v & 1) == 1) {
                worst = Math.max(worst, sharing(fit, t, letByRate[v][t]));
            }
        }
        return worst;
    }

    private int sharing(int fit, int t, int counted) {
        int alike = 0;
        for (int v = 0; v <= MOST_RATE; v++) {
            if ((fit >> v & 1) == 1 && letByRate[v][t] == counted) {
                alike++;
            }
        }
        return alike;
    }

    private boolean comesFrom(Sheet source, int first) {
        int t = source.cells[first];
        int many = source.cells[first + 1];
        int every = source.cells[first + 2];
        return isCrowd(t, many, every) && now.addCrowd(t, many, every);
    }

    // ---- odds

    /** Each bit of quiet is a tick in which nobody comes; the weights are over 10 to the power n. */
    private long weighAll(int v, int n, boolean byLet) {
        long sum = 0;
        for (int quiet = 0; quiet < 1 << n; quiet++) {
            int silent = Integer.bitCount(quiet);
            long weight = power(v, silent) * power(WHOLE_ODDS - v, n - silent);
            if (weight != 0) {
                runQuiet(quiet, n);
                int unturned = trial.turned == 0 ? 1 : 0;
                sum += weight * (byLet ? trial.let : unturned);
            }
        }
        return sum;
    }

    private void runQuiet(int quiet, int n) {
        startTrial();
        for (int t = 0; t < n; t++) {
            trial.tickWith((quiet >> t & 1) == 1 ? 0 : trial.comers());
        }
    }

    private static long power(int base, int exponent) {
        long product = 1;
        for (int i = 0; i < exponent; i++) {
            product *= base;
        }
        return product;
    }

    private static long part(long above, long below, int what) {
        long common = Math.max(1, commonDivisor(above, below));
        return (what == 0 ? above : below) / common;
    }

    private static long commonDivisor(long a, long b) {
        long greater = a;
        long lesser = b;
        for (int i = 0; i < 200 && lesser != 0; i++) {
            long rest = greater % lesser;
            greater = lesser;
            lesser = rest;
        }
        return greater;
    }

    private static final class Door {
        int kind;
        int depth;
        int rate;
        int holds;
        int refused;
        boolean standsOpen;

        Door() {
        }

        void make(int newKind, int newDepth, int newRate) {
            kind = newKind;
            depth = newDepth;
            rate = newRate;
            holds = newKind == TOKEN ? newDepth : 0;
        }

        void become(Door other) {
            kind = other.kind;
            depth = other.depth;
            rate = other.rate;
            holds = other.holds;
        }

        void countAnew() {
            refused = 0;
            standsOpen = false;
        }

        int told(int what) {
            switch (what) {
                case KIND: return kind;
                case DEPTH: return depth;
                case RATE: return rate;
                default: return holds;
            }
        }

        void change(int what, int v) {
            switch (what) {
                case KIND: kind = v; break;
                case DEPTH: depth = v; break;
                case RATE: rate = v; break;
                default: holds = v; break;
            }
            holds = Math.min(holds, depth);
        }

        int room() {
            return kind == TOKEN ? holds : depth - holds;
        }

        int admit(int many) {
            if (standsOpen) {
                return many;
            }
            int in = Math.min(many, room());
            holds += kind == TOKEN ? -in : in;
            refused += many - in;
            return in;
        }

        void settle(int tick) {
            if (standsOpen) {
                return;
            }
            if (kind == TOKEN) {
                holds = Math.min(depth, holds + rate);
            } else if (kind == LEAK) {
                holds = Math.max(0, holds - rate);
            } else if (rate > 0 && (tick + 1) % rate == 0) {
                holds = kind == WINDOW ? 0 : holds / 2;
            }
        }
    }

    private static final class Crowd {
        int start;
        int many;
        int every;

        Crowd() {
        }

        void make(int newStart, int newMany, int newEvery) {
            start = newStart;
            many = newMany;
            every = newEvery;
        }

        boolean comesAt(int tick) {
            if (tick == start) {
                return true;
            }
            return every > 0 && tick > start && (tick - start) % every == 0;
        }
    }

    /** The doors, the crowds and what was counted: all that an image keeps. */
    private static final class Hall {
        final Door[] doors = new Door[MOST_DOORS];
        final Crowd[] crowds = new Crowd[MOST_CROWDS];
        int doorCount;
        int crowdCount;
        int tick;
        int let;
        int turned;

        Hall() {
            for (int d = 0; d < MOST_DOORS; d++) {
                doors[d] = new Door();
            }
            for (int i = 0; i < MOST_CROWDS; i++) {
                crowds[i] = new Crowd();
            }
        }

        void clear() {
            doorCount = 0;
            crowdCount = 0;
            tick = 0;
            let = 0;
            turned = 0;
        }

        void become(Hall other) {
            doorCount = other.doorCount;
            for (int d = 0; d < doorCount; d++) {
                doors[d].become(other.doors[d]);
            }
            crowdCount = other.crowdCount;
            for (int i = 0; i < crowdCount; i++) {
                Crowd from = other.crowds[i];
                crowds[i].make(from.start, from.many, from.every);
            }
            tick = other.tick;
            let = other.let;
            turned = other.turned;
        }

        void countAnew() {
            let = 0;
            turned = 0;
            for (int d = 0; d < doorCount; d++) {
                doors[d].countAnew();
            }
        }

        boolean addDoor(int kind, int depth, int rate) {
            if (doorCount >= MOST_DOORS) {
                return false;
            }
            doors[doorCount].make(kind, depth, rate);
            doorCount++;
            return true;
        }

        boolean addCrowd(int start, int many, int every) {
            if (crowdCount >= MOST_CROWDS) {
                return false;
            }
            crowds[crowdCount].make(start, many, every);
            crowdCount++;
            return true;
        }

        void exchange(int one, int other) {
            Door held = doors[one];
            doors[one] = doors[other];
            doors[other] = held;
        }

        int comers() {
            int sum = 0;
            for (int i = 0; i < crowdCount; i++) {
                sum += crowds[i].comesAt(tick) ? crowds[i].many : 0;
            }
            return sum;
        }

        int letters() {
            int bits = 0;
            for (int d = 0; d < doorCount; d++) {
                bits |= doors[d].room() > 0 ? 1 << d : 0;
            }
            return bits;
        }

        int firstShut() {
            for (int d = 0; d < doorCount; d++) {
                if (doors[d].room() == 0) {
                    return d;
                }
            }
            return NONE;
        }

        /**
         * Ones of a tick are alike and no door settles between them, so each door lets the first
         * of them and refuses the rest: they may go through as one number.
         */
        int admit(int many) {
            int left = many;
            for (int d = 0; d < doorCount; d++) {
                left = doors[d].admit(left);
            }
            let = Math.min(MOST_COUNTED, let + left);
            turned = Math.min(MOST_COUNTED, turned + many - left);
            return left;
        }

        int tickWith(int many) {
            int in = admit(many);
            for (int d = 0; d < doorCount; d++) {
                doors[d].settle(tick);
            }
            tick++;
            return in;
        }

        int tickOn() {
            return tickWith(comers());
        }

        int runOn(int n) {
            int sum = 0;
            for (int i = 0; i < n; i++) {
                sum += tickOn();
            }
            return sum;
        }

        int heldByAll() {
            int sum = 0;
            for (int d = 0; d < doorCount; d++) {
                sum += doors[d].holds;
            }
            return sum;
        }

        int depthOfAll() {
            int sum = 0;
            for (int d = 0; d < doorCount; d++) {
                sum += doors[d].depth;
            }
            return sum;
        }

        int manyOfAll() {
            int sum = 0;
            for (int i = 0; i < crowdCount; i++) {
                sum += crowds[i].many;
            }
            return sum;
        }
    }

    /** Bytes that are read token by token: a blank only parts tokens. */
    private static final class Tape {
        static final int END = 0, NAME = 1, NUMBER = 2, STOP = 3, TORN = 4;

        final byte[] bytes = new byte[TAPE_SIZE];
        int length;
        int next;
        int start;
        int value;

        Tape() {
        }

        boolean append(int c) {
            if (length >= TAPE_SIZE) {
                return false;
            }
            bytes[length] = (byte) c;
            length++;
            return true;
        }

        /** Moves to the next token, [start, next), and answers its sort. */
        int advance() {
            while (next < length && bytes[next] == ' ') {
                next++;
            }
            start = next;
            if (start >= length) {
                return END;
            }
            if (isLetter(bytes[start])) {
                return takeName();
            }
            if (isFigure(bytes[start])) {
                return takeNumber();
            }
            next++;
            return bytes[start] == ';' ? STOP : TORN;
        }

        private int takeName() {
            while (next < length && isLetter(bytes[next])) {
                next++;
            }
            return NAME;
        }

        private int takeNumber() {
            value = 0;
            while (next < length && isFigure(bytes[next])) {
                value = (10 * value + bytes[next] - '0') % 100;
                next++;
            }
            return next - start <= 2 ? NUMBER : TORN;
        }

        boolean nameIs(String name) {
            if (next - start != name.length()) {
                return false;
            }
            for (int i = 0; i < name.length(); i++) {
                if (bytes[start + i] != name.charAt(i)) {
                    return false;
                }
            }
            return true;
        }

        private static boolean isLetter(byte b) {
            return b >= 'a' && b <= 'z';
        }

        private static boolean isFigure(byte b) {
            return b >= '0' && b <= '9';
        }
    }

    /** Reads a tape into a hall; found is the first fault, whose place is the tape's start. */
    private static final class Teller {
        static final int CROWD_LINE = 4, NO_LINE = 5;

        final Tape tape;
        final Hall draft;
        int found;

        Teller(Tape source, Hall target) {
            tape = source;
            draft = target;
        }

        int tellAll() {
            draft.clear();
            found = 0;
            tape.next = 0;
            int lines = 0;
            for (int i = 0; i <= TAPE_SIZE; i++) {
                int sort = tape.advance();
                if (sort == Tape.END || !tellLine(sort)) {
                    break;
                }
                lines++;
            }
            return lines;
        }

        private boolean tellLine(int sort) {
            if (!expect(sort, Tape.NAME)) {
                return false;
            }
            int begun = lineBegun();
            if (begun == NO_LINE) {
                return fail(MISPLACED);
            }
            return begun == CROWD_LINE ? tellCrowd() : tellDoor(begun);
        }

        private int lineBegun() {
            if (tape.nameIs("token")) {
                return TOKEN;
            }
            if (tape.nameIs("leak")) {
                return LEAK;
            }
            if (tape.nameIs("window")) {
                return WINDOW;
            }
            if (tape.nameIs("half")) {
                return HALF;
            }
            return tape.nameIs("crowd") ? CROWD_LINE : NO_LINE;
        }

        private boolean tellDoor(int kind) {
            if (draft.doorCount >= MOST_DOORS) {
                return fail(TOO_MANY);
            }
            if (!takeNumber(1, MOST_DEPTH)) {
                return false;
            }
            int depth = tape.value;
            if (!takeNumber(0, MOST_RATE)) {
                return false;
            }
            int rate = tape.value;
            return takeStop() && draft.addDoor(kind, depth, rate);
        }

        private boolean tellCrowd() {
            if (draft.crowdCount >= MOST_CROWDS) {
                return fail(TOO_MANY);
            }
            if (!takeNumber(0, LAST_START)) {
                return false;
            }
            int begins = tape.value;
            if (!takeNumber(1, MOST_MANY)) {
                return false;
            }
            int many = tape.value;
            if (!takeNumber(0, MOST_EVERY)) {
                return false;
            }
            int every = tape.value;
            return takeStop() && draft.addCrowd(begins, many, every);
        }

        private boolean takeNumber(int least, int most) {
            if (!expect(tape.advance(), Tape.NUMBER)) {
                return false;
            }
            return (tape.value >= least && tape.value <= most) || fail(OUT_OF_BOUNDS);
        }

        private boolean takeStop() {
            return expect(tape.advance(), Tape.STOP);
        }

        private boolean expect(int sort, int due) {
            if (sort == Tape.TORN) {
                return fail(NO_TOKEN);
            }
            return sort == due || fail(MISPLACED);
        }

        private boolean fail(int fault) {
            found = fault;
            return false;
        }
    }

    /** What was counted: in which ticks from now on how many are let. */
    private static final class Seen {
        final int[] inTick = new int[MOST_SEEN];
        final int[] let = new int[MOST_SEEN];
        int size;

        Seen() {
        }

        boolean add(int n, int v) {
            if (size >= MOST_SEEN) {
                return false;
            }
            inTick[size] = n;
            let[size] = v;
            size++;
            return true;
        }

        boolean agreesWith(int[] letByTick) {
            for (int i = 0; i < size; i++) {
                if (inTick[i] >= letByTick.length || letByTick[inTick[i]] != let[i]) {
                    return false;
                }
            }
            return true;
        }
    }

    /** A row of cells of a lane; its faults are those that the machine would find in such a row. */
    private static final class Sheet {
        final int[] cells = new int[MOST_CELLS];
        boolean laid;
        int lane;
        int size;

        Sheet() {
        }

        void renew(int newLane, int n) {
            laid = true;
            lane = newLane;
            size = n;
            Arrays.fill(cells, 0);
        }

        void put(int i, int v) {
            if (lane == 0) {
                cells[i] = (byte) v;
            } else if (lane == 1) {
                cells[i] = (short) v;
            } else {
                cells[i] = v;
            }
        }

        int faultAt(int i) {
            if (!laid) {
                return NULL_FAULT;
            }
            return i < 0 || i >= size ? INDEX_FAULT : 0;
        }

        /** The row is taken as of a lane before its cells are touched; nothing may be taken as of any. */
        int faultInThree(int wanted, int first) {
            if (laid && lane != wanted) {
                return CAST_FAULT;
            }
            int found = faultAt(first);
            return found != 0 ? found : faultAt(first + 2);
        }
    }
}
