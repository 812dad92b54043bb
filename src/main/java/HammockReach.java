/**
 * A forest republic whose provinces are hammocks. Every row, forest and table is made with the
 * object and used again, so that no call makes anything new.
 */
public final class HammockReach {
    public static final int NONE = -1000000, BAD = -1000001, STATE = -1000002, FULL = -1000003;

    private static final int FINDINGS = -1000010, FAULTS = -1000100;
    private static final int NO_ROW = 1, NO_PLACE = 2, NO_KIND = 3, NO_SIZE = 4, NO_STORE = 5;

    private static final int ROWS = 8, LANES = 3, ITEMS = 40, MISSING = -1;
    private static final int TAPE = 120, HAMMOCKS = 6, TREES = 12, MOST_WEIGHT = 20, MOST_SWING = 5;
    private static final int MOST_HIGH = 40, MOST_ARM = 5, LAST_MINUTE = 999, MOST_MINUTES = 24;
    private static final int ACTS = 24, IMAGES = 2, FARTHEST = 60, MOST_TOLD = 16, BREAK_PARTS = 10;
    private static final int TRACED = 16, DEEPEST = 16;

    private static final int CORD = 1, SILK = 2, VINE = 3, BRANCH = 4, ROOT = 5, KINDS = 6;
    private static final int SIZE = 0, MARK = 1;

    /** The nearest kind that each kind is, too. */
    private static final int[] ABOVE = {0, 0, 1, 1, 0, 4};
    /** The body told for each kind, 0 where none is told. */
    private static final int[] SIZE_BODIES = {10, 11, 12, 0, 13, 14};
    private static final int[] MARK_BODIES = {20, 21, 24, 22, 23, 0};

    private final Row[] rows = new Row[ROWS];
    private final Tape tape = new Tape();
    private final Forest now = new Forest();
    /** What is only supposed is tried on this one, so that nothing foretold changes the forest. */
    private final Forest trial = new Forest();
    private final Forest[] images = new Forest[IMAGES];
    private final Acts acts = new Acts();
    private final Outlook outlook = new Outlook();
    private final int[] traced = new int[TRACED];
    private int tracedCount;
    private int finding;

    public HammockReach() {
        for (int i = 0; i < ROWS; i++) {
            rows[i] = new Row();
        }
        for (int k = 0; k < IMAGES; k++) {
            images[k] = new Forest();
        }
    }

    // ---- rows

    public int row(int row, int lane, int n) {
        if (!isRow(row) || !isBelow(lane, LANES) || n > ITEMS) {
            return BAD;
        }
        if (n < 0) {
            return finds(NO_SIZE);
        }
        finding = 0;
        rows[row].begin(lane, n);
        return n;
    }

    public int set(int row, int i, int v) {
        if (!isRow(row)) {
            return BAD;
        }
        Row r = rows[row];
        if (r.lane == MISSING) {
            return finds(NO_ROW);
        }
        if (!isBelow(i, r.size)) {
            return finds(NO_PLACE);
        }
        finding = 0;
        r.items[i] = r.narrowed(v);
        return r.items[i];
    }

    public int copy(int a, int i, int b, int j, int n) {
        if (!isRow(a) || !isRow(b)) {
            return BAD;
        }
        Row from = rows[a];
        Row to = rows[b];
        if (from.lane == MISSING || to.lane == MISSING) {
            return finds(NO_ROW);
        }
        if (from.lane != to.lane) {
            return finds(NO_STORE);
        }
        if (!from.hasSpan(i, n) || !to.hasSpan(j, n)) {
            return finds(NO_PLACE);
        }
        finding = 0;
        System.arraycopy(from.items, i, to.items, j, n);
        return n;
    }

    public int drop(int row) {
        if (!isRow(row)) {
            return BAD;
        }
        Row r = rows[row];
        if (r.lane == MISSING) {
            return finds(NO_ROW);
        }
        finding = 0;
        r.lane = MISSING;
        return r.size;
    }

    // ---- forests, acts

    public int feed(int letter) {
        if (!isBelow(letter, 256)) {
            return BAD;
        }
        if (tape.length >= TAPE) {
            return FULL;
        }
        tape.bytes[tape.length] = letter;
        tape.length++;
        return tape.length;
    }

    public int forest() {
        boolean read = tape.readInto(trial);
        tape.length = 0;
        if (!read) {
            return FAULTS - tape.at;
        }
        now.takeFrom(trial);
        acts.forget();
        return now.size;
    }

    public int fault() {
        return tape.fault;
    }

    public int minutes(int n) {
        if (!now.stands) {
            return STATE;
        }
        if (n < 1 || n > MOST_MINUTES) {
            return BAD;
        }
        if (now.minute + n > LAST_MINUTE) {
            return FULL;
        }
        for (int i = 0; i < n; i++) {
            acts.keep(Acts.MINUTE, 0, 0, 0);
            now.minute++;
        }
        return now.downBits(now.minute);
    }

    public int sling(int hammock, int a, int b) {
        if (!isHammock(hammock) || a < 0 || b >= TREES || b <= a) {
            return BAD;
        }
        if (now.low[hammock] == a && now.top[hammock] == b) {
            return STATE;
        }
        acts.keep(Acts.SLUNG, hammock, now.low[hammock], now.top[hammock]);
        now.low[hammock] = a;
        now.top[hammock] = b;
        return now.place(hammock, now.minute);
    }

    public int load(int hammock, int weight) {
        if (!isHammock(hammock) || weight < 1 || weight > MOST_WEIGHT) {
            return BAD;
        }
        acts.keep(Acts.LOADED, hammock, now.weight[hammock], 0);
        now.weight[hammock] = weight;
        return now.dip(hammock, now.minute);
    }

    public int cord(int hammock, int cut) {
        if (!isHammock(hammock) || !isBelow(cut, 2)) {
            return BAD;
        }
        if (now.isCut(hammock) == (cut == 1)) {
            return STATE;
        }
        acts.keep(Acts.CUT_OR_TIED, hammock, 0, 0);
        now.cut ^= 1 << hammock;
        return now.cut;
    }

    public int undo() {
        if (acts.kept == 0) {
            return STATE;
        }
        acts.takeBack(now);
        return acts.kept;
    }

    public int hammock(int hammock, int what) {
        if (!isHammock(hammock)) {
            return BAD;
        }
        switch (what) {
            case 0: return now.low[hammock];
            case 1: return now.top[hammock];
            case 2: return now.weight[hammock];
            case 3: return now.swing[hammock];
            case 4: return now.isCut(hammock) ? 1 : 0;
            case 5: return now.dip(hammock, now.minute);
            case 6: return now.place(hammock, now.minute);
            default: return BAD;
        }
    }

    // ---- foretold

    public int ahead(int hammock, int d, int what) {
        if (!isHammock(hammock) || !isAhead(d) || !isBelow(what, 2)) {
            return BAD;
        }
        int minute = now.minute + d;
        return what == 0 ? now.place(hammock, minute) : now.dip(hammock, minute);
    }

    public int down(int d) {
        if (!now.stands) {
            return STATE;
        }
        return isAhead(d) ? now.downBits(now.minute + d) : BAD;
    }

    public int reach(int hammock, int d) {
        if (!isHammock(hammock) || !isAhead(d)) {
            return BAD;
        }
        return now.nearBits(hammock, now.minute + d);
    }

    public int meet(int a, int b) {
        if (!areTwo(a, b)) {
            return BAD;
        }
        for (int d = 0; d <= FARTHEST; d++) {
            if (now.areNear(now.spot(a, now.minute + d), now.spot(b, now.minute + d))) {
                return d;
            }
        }
        return NONE;
    }

    public int soonest(int a, int b) {
        if (!isHammock(a) || !isHammock(b)) {
            return BAD;
        }
        outlook.foresee(now, FARTHEST);
        return outlook.arrival(a, b, FARTHEST, 0);
    }

    public int hands(int a, int b) {
        if (!isHammock(a) || !isHammock(b)) {
            return BAD;
        }
        outlook.foresee(now, FARTHEST);
        return outlook.fewestHands(a, b);
    }

    public int everywhere(int a, int d) {
        if (!isHammock(a) || !isAhead(d)) {
            return BAD;
        }
        outlook.foresee(now, d);
        return outlook.holders(a, d);
    }

    public int stops(int a, int b, int d) {
        if (!areTwo(a, b) || !isAhead(d)) {
            return BAD;
        }
        outlook.foresee(now, d);
        if (outlook.arrival(a, b, d, 0) == NONE) {
            return 0;
        }
        int bits = 0;
        for (int c = 0; c < now.size; c++) {
            if (c != a && c != b && outlook.arrival(a, b, d, 1 << c) == NONE) {
                bits |= 1 << c;
            }
        }
        return bits;
    }

    public int toSling(int c, int a, int b, int what) {
        if (!areTwo(a, b) || !areTwo(a, c) || !areTwo(b, c) || !isBelow(what, 2)) {
            return BAD;
        }
        trial.takeFrom(now);
        outlook.foresee(trial, FARTHEST);
        int best = outlook.arrival(a, b, FARTHEST, 0);
        int trees = TREES * now.low[c] + now.top[c];
        // Only what is sooner than the best so far counts: the least of several comes first.
        for (int pair = 1; pair < TREES * TREES; pair++) {
            if (pair / TREES >= pair % TREES) {
                continue;
            }
            trial.low[c] = pair / TREES;
            trial.top[c] = pair % TREES;
            int limit = best == NONE ? FARTHEST : best - 1;
            outlook.foreseeAnew(trial, c, limit);
            int minute = outlook.arrival(a, b, limit, 0);
            if (minute != NONE) {
                best = minute;
                trees = pair;
            }
        }
        return best == NONE || what == 1 ? best : trees;
    }

    public int fits(int hammock, int row, int i, int n, int what) {
        if (!isHammock(hammock) || !isRow(row) || n < 1 || n > MOST_TOLD || !isBelow(what, 3)) {
            return BAD;
        }
        Row told = rows[row];
        if (told.lane == MISSING) {
            return finds(NO_ROW);
        }
        if (!told.hasSpan(i, n)) {
            return finds(NO_PLACE);
        }
        finding = 0;
        trial.takeFrom(now);
        switch (what) {
            case 0: return fittingKinds(hammock, told, i, n);
            case 1: return fittingSwings(hammock, told, i, n);
            default: return fittingWeights(hammock, told, i, n);
        }
    }

    public int breaks(int a, int b, int d, int c, int what) {
        if (!isHammock(a) || !isHammock(b) || !isAhead(d)) {
            return BAD;
        }
        if (c < 0 || c > BREAK_PARTS || !isBelow(what, 2)) {
            return BAD;
        }
        outlook.foresee(now, d);
        int parts = 0;
        for (int broken = 0; broken < 1 << now.size; broken++) {
            // A cord that is cut cannot break.
            if ((broken & now.cut) == 0 && outlook.arrival(a, b, d, broken) != NONE) {
                parts += partsOf(broken, c);
            }
        }
        int all = partsOfAll();
        int common = commonDivisor(parts, all);
        if (common <= 0) {
            return BAD;
        }
        return what == 0 ? parts / common : all / common;
    }

    public int image(int k) {
        if (!isBelow(k, IMAGES)) {
            return BAD;
        }
        if (!now.stands) {
            return STATE;
        }
        images[k].takeFrom(now);
        return 1;
    }

    public int restore(int k) {
        if (!isBelow(k, IMAGES)) {
            return BAD;
        }
        if (!images[k].stands) {
            return STATE;
        }
        now.takeFrom(images[k]);
        acts.forget();
        return 1;
    }

    // ---- asked

    public int kind(int hammock) {
        return isHammock(hammock) ? now.sort[hammock] : BAD;
    }

    public int as(int hammock, int kind) {
        if (!isHammock(hammock) || !isBelow(kind, KINDS)) {
            return BAD;
        }
        if (!isOfKind(now.sort[hammock], kind)) {
            return finds(NO_KIND);
        }
        finding = 0;
        return hammock;
    }

    public int ask(int hammock, int what) {
        if (!isHammock(hammock) || !isBelow(what, 2)) {
            return BAD;
        }
        tracedCount = 0;
        return answer(what, hammock, 0);
    }

    public int trace(int i) {
        return isBelow(i, tracedCount) ? traced[i] : NONE;
    }

    public int count(int what) {
        switch (what) {
            case 0: return countRows();
            case 1: return now.size;
            case 2: return now.minute;
            case 3: return now.high;
            case 4: return now.arm;
            case 5: return Integer.bitCount(now.cut);
            case 6: return acts.kept;
            case 7: return tape.length;
            default: return BAD;
        }
    }

    public int status() {
        return finding;
    }

    // ---- what is told well

    private static boolean isBelow(int n, int bound) {
        return n >= 0 && n < bound;
    }

    private static boolean isRow(int row) {
        return isBelow(row, ROWS);
    }

    private static boolean isAhead(int d) {
        return d >= 0 && d <= FARTHEST;
    }

    private boolean isHammock(int h) {
        return isBelow(h, now.size);
    }

    private boolean areTwo(int a, int b) {
        return isHammock(a) && isHammock(b) && a != b;
    }

    private int finds(int number) {
        finding = number;
        return FINDINGS - number;
    }

    private int countRows() {
        int there = 0;
        for (int i = 0; i < ROWS; i++) {
            if (rows[i].lane != MISSING) {
                there++;
            }
        }
        return there;
    }

    // ---- what fits a row, tried on the trial forest

    private int fittingKinds(int h, Row told, int i, int n) {
        int bits = 0;
        for (int kind = CORD; kind < KINDS; kind++) {
            trial.sort[h] = kind;
            if (wasThere(h, told, i, n)) {
                bits |= 1 << kind;
            }
        }
        return bits;
    }

    private int fittingSwings(int h, Row told, int i, int n) {
        int bits = 0;
        for (int swing = 0; swing <= MOST_SWING; swing++) {
            trial.swing[h] = swing;
            if (wasThere(h, told, i, n)) {
                bits |= 1 << swing;
            }
        }
        return bits;
    }

    private int fittingWeights(int h, Row told, int i, int n) {
        int bits = 0;
        for (int weight = 1; weight <= MOST_WEIGHT; weight++) {
            trial.weight[h] = weight;
            if (wasReached(h, told, i, n)) {
                bits |= 1 << weight;
            }
        }
        return bits;
    }

    private boolean wasThere(int h, Row told, int i, int n) {
        for (int k = 0; k < n; k++) {
            if (told.items[i + k] != trial.place(h, trial.minute + k)) {
                return false;
            }
        }
        return true;
    }

    private boolean wasReached(int h, Row told, int i, int n) {
        for (int k = 0; k < n; k++) {
            if (told.items[i + k] != trial.nearBits(h, trial.minute + k)) {
                return false;
            }
        }
        return true;
    }

    // ---- fractions of what breaks

    private int partsOf(int broken, int c) {
        int parts = 1;
        for (int h = 0; h < now.size; h++) {
            if (!now.isCut(h)) {
                parts *= (broken >> h & 1) == 1 ? c : BREAK_PARTS - c;
            }
        }
        return parts;
    }

    private int partsOfAll() {
        int parts = 1;
        for (int h = 0; h < now.size; h++) {
            if (!now.isCut(h)) {
                parts *= BREAK_PARTS;
            }
        }
        return parts;
    }

    private static int commonDivisor(int a, int b) {
        int larger = b;
        int smaller = a;
        // Of numbers of 32 bits no pair takes as many as 64 steps.
        for (int step = 0; step < 64 && smaller != 0; step++) {
            int rest = larger % smaller;
            larger = smaller;
            smaller = rest;
        }
        return larger;
    }

    // ---- kinds and asks

    private static boolean isOfKind(int sort, int kind) {
        int is = sort;
        for (int step = 0; step < KINDS && is != kind && is != 0; step++) {
            is = ABOVE[is];
        }
        return is == kind;
    }

    private static int nearestBody(int sort, int what) {
        int is = sort;
        for (int step = 0; step < KINDS; step++) {
            int body = what == SIZE ? SIZE_BODIES[is] : MARK_BODIES[is];
            if (body != 0) {
                return body;
            }
            is = ABOVE[is];
        }
        return what == SIZE ? SIZE_BODIES[0] : MARK_BODIES[0];
    }

    private int answer(int what, int h, int depth) {
        return body(nearestBody(now.sort[h], what), h, depth);
    }

    private int body(int number, int h, int depth) {
        if (depth > DEEPEST) {
            return 0;
        }
        if (tracedCount < TRACED) {
            traced[tracedCount] = number;
            tracedCount++;
        }
        int deeper = depth + 1;
        switch (number) {
            case 10: return now.weight[h];
            case 11: return body(10, h, deeper) + answer(MARK, h, deeper);
            case 12: return 0 - body(11, h, deeper);
            case 13: return body(10, h, deeper) - 100;
            case 14: return 2 * body(13, h, deeper);
            case 20: return h;
            case 21: return body(20, h, deeper) + now.dip(h, now.minute);
            case 22: return body(21, h, deeper) - 1000;
            case 23: return body(20, h, deeper) - answer(SIZE, h, deeper);
            case 24: return 2 * body(21, h, deeper);
            default: return 0;
        }
    }

    /** A row of items, all of one lane, or none. */
    private static final class Row {
        final int[] items = new int[ITEMS];
        int lane = MISSING;
        int size;

        void begin(int newLane, int newSize) {
            lane = newLane;
            size = newSize;
            for (int i = 0; i < ITEMS; i++) {
                items[i] = 0;
            }
        }

        int narrowed(int v) {
            switch (lane) {
                case 0: return (byte) v;
                case 1: return (short) v;
                default: return v;
            }
        }

        /** Told without i + n, which could wrap around. */
        boolean hasSpan(int i, int n) {
            return i >= 0 && n >= 0 && n <= size && i <= size - n;
        }
    }

    /** The bytes that came, and the reading of them, which stops at the first fault. */
    private static final class Tape {
        static final int MISPLACED = 1, NOT_AS_TOLD = 2, NO_ROOM = 3;

        final int[] bytes = new int[TAPE];
        int length;
        /** Where the token begins that is read; behind a fault, the place of it. */
        int at;
        int fault;

        boolean readInto(Forest f) {
            at = 0;
            f.begin();
            if (!readLaw(f)) {
                return false;
            }
            for (int i = 0; i <= HAMMOCKS && at < length; i++) {
                if (!readHammock(f)) {
                    return false;
                }
            }
            return true;
        }

        private boolean readLaw(Forest f) {
            if (!readSign('t')) {
                return false;
            }
            f.high = readNumber(0, MOST_HIGH);
            if (f.high < 0 || !readSign(',')) {
                return false;
            }
            f.arm = readNumber(0, MOST_ARM);
            return f.arm >= 0 && readSign(';');
        }

        private boolean readHammock(Forest f) {
            int h = f.size;
            int sort = sortOf(byteAt(at));
            if (sort == 0) {
                return refuse(MISPLACED);
            }
            if (h >= HAMMOCKS) {
                return refuse(NO_ROOM);
            }
            at++;
            f.sort[h] = sort;
            f.size = h + 1;
            return readTrees(f, h) && readLoad(f, h);
        }

        private boolean readTrees(Forest f, int h) {
            f.low[h] = readNumber(0, TREES - 1);
            if (f.low[h] < 0 || !readSign(',')) {
                return false;
            }
            f.top[h] = readNumber(f.low[h] + 1, TREES - 1);
            return f.top[h] >= 0 && readSign(',');
        }

        private boolean readLoad(Forest f, int h) {
            f.weight[h] = readNumber(1, MOST_WEIGHT);
            if (f.weight[h] < 0 || !readSign(',')) {
                return false;
            }
            f.swing[h] = readNumber(0, MOST_SWING);
            return f.swing[h] >= 0 && readSign(';');
        }

        private boolean readSign(int sign) {
            if (byteAt(at) != sign) {
                return refuse(MISPLACED);
            }
            at++;
            return true;
        }

        /** A number that is not below 0; -1 behind a fault. */
        private int readNumber(int least, int most) {
            int value = 0;
            int figures = 0;
            for (int i = at; i < length && isFigure(byteAt(i)) && figures < 3; i++) {
                value = 10 * value + byteAt(i) - '0';
                figures++;
            }
            if (figures == 0 || figures == 3) {
                refuse(MISPLACED);
                return -1;
            }
            if (value < least || value > most) {
                refuse(NOT_AS_TOLD);
                return -1;
            }
            at += figures;
            return value;
        }

        private boolean refuse(int number) {
            fault = number;
            return false;
        }

        /** A byte of the tape; behind its end what no byte is. */
        private int byteAt(int i) {
            return isBelow(i, length) ? bytes[i] : -1;
        }

        private static boolean isFigure(int letter) {
            return letter >= '0' && letter <= '9';
        }

        private static int sortOf(int letter) {
            switch (letter) {
                case 'c': return CORD;
                case 's': return SILK;
                case 'v': return VINE;
                case 'r': return BRANCH;
                case 'o': return ROOT;
                default: return 0;
            }
        }
    }

    /** The hammocks, their law and the minute. */
    private static final class Forest {
        /** Farther from every place than any arm reaches: where no one meets whoever is down. */
        static final int NOWHERE = -1000;

        final int[] sort = new int[HAMMOCKS];
        final int[] low = new int[HAMMOCKS];
        final int[] top = new int[HAMMOCKS];
        final int[] weight = new int[HAMMOCKS];
        final int[] swing = new int[HAMMOCKS];
        boolean stands;
        int high;
        int arm;
        int minute;
        int size;
        int cut;

        void begin() {
            stands = true;
            minute = 0;
            size = 0;
            cut = 0;
        }

        void takeFrom(Forest other) {
            System.arraycopy(other.sort, 0, sort, 0, HAMMOCKS);
            System.arraycopy(other.low, 0, low, 0, HAMMOCKS);
            System.arraycopy(other.top, 0, top, 0, HAMMOCKS);
            System.arraycopy(other.weight, 0, weight, 0, HAMMOCKS);
            System.arraycopy(other.swing, 0, swing, 0, HAMMOCKS);
            stands = other.stands;
            high = other.high;
            arm = other.arm;
            minute = other.minute;
            size = other.size;
            cut = other.cut;
        }

        boolean isCut(int h) {
            return (cut >> h & 1) == 1;
        }

        int dip(int h, int t) {
            int apart = top[h] - low[h];
            int asCord = weight[h] + apart / 2;
            switch (sort[h]) {
                case SILK: return asCord / 2;
                case VINE: return asCord + t / 10;
                case BRANCH: return apart;
                case ROOT: return 0;
                default: return asCord;
            }
        }

        boolean isDown(int h, int t) {
            return isCut(h) || dip(h, t) > high;
        }

        int downBits(int t) {
            int bits = 0;
            for (int h = 0; h < size; h++) {
                if (isDown(h, t)) {
                    bits |= 1 << h;
                }
            }
            return bits;
        }

        /** Where it is, in halves of a place. */
        int place(int h, int t) {
            return low[h] + top[h] + 2 * offset(h, t);
        }

        private int offset(int h, int t) {
            switch (sort[h]) {
                case VINE: return swung(swing[h], t / 2);
                case BRANCH: return 0;
                case ROOT: return swing[h];
                default: return swung(swing[h], t);
            }
        }

        private static int swung(int swing, int t) {
            if (swing <= 0) {
                return 0;
            }
            int step = t % (4 * swing);
            if (step <= swing) {
                return step;
            }
            return step <= 3 * swing ? 2 * swing - step : step - 4 * swing;
        }

        /** Where it can be reached. */
        int spot(int h, int t) {
            return isDown(h, t) ? NOWHERE : place(h, t);
        }

        boolean areNear(int spot, int other) {
            return spot != NOWHERE && other != NOWHERE && Math.abs(spot - other) <= 2 * arm;
        }

        int nearBits(int h, int t) {
            int bits = 0;
            int mine = spot(h, t);
            for (int other = 0; other < size; other++) {
                if (other != h && areNear(mine, spot(other, t))) {
                    bits |= 1 << other;
                }
            }
            return bits;
        }
    }

    /** The latest acts, each with what stood before it, in a ring. */
    private static final class Acts {
        static final int MINUTE = 0, SLUNG = 1, LOADED = 2, CUT_OR_TIED = 3;

        final int[] what = new int[ACTS];
        final int[] whose = new int[ACTS];
        final int[] before = new int[ACTS];
        final int[] beforeToo = new int[ACTS];
        int oldest;
        int kept;

        void forget() {
            kept = 0;
        }

        void keep(int act, int h, int first, int second) {
            if (kept == ACTS) {
                oldest = (oldest + 1) % ACTS;
                kept--;
            }
            int slot = (oldest + kept) % ACTS;
            what[slot] = act;
            whose[slot] = h;
            before[slot] = first;
            beforeToo[slot] = second;
            kept++;
        }

        void takeBack(Forest f) {
            if (kept == 0) {
                return;
            }
            kept--;
            int slot = (oldest + kept) % ACTS;
            int h = whose[slot];
            switch (what[slot]) {
                case SLUNG:
                    f.low[h] = before[slot];
                    f.top[h] = beforeToo[slot];
                    break;
                case LOADED:
                    f.weight[h] = before[slot];
                    break;
                case CUT_OR_TIED:
                    f.cut ^= 1 << h;
                    break;
                default:
                    f.minute--;
                    break;
            }
        }
    }

    /** Who is near whom in each minute to come: the ways of a gift. */
    private static final class Outlook {
        /** By minute, then by hammock. */
        final int[] spots = new int[FARTHEST * HAMMOCKS];
        final int[] near = new int[FARTHEST * HAMMOCKS];
        /** Who can have the gift when it was given that often at most: it goes by each once. */
        final int[] within = new int[HAMMOCKS];
        int size;

        void foresee(Forest f, int minutes) {
            size = f.size;
            for (int t = 0; t < minutes && t < FARTHEST; t++) {
                int start = t * HAMMOCKS;
                for (int h = 0; h < size; h++) {
                    spots[start + h] = f.spot(h, f.minute + t);
                }
                for (int h = 0; h < size; h++) {
                    link(f, start, h);
                }
            }
        }

        /** As foresee, where since then only h has become another. */
        void foreseeAnew(Forest f, int h, int minutes) {
            for (int t = 0; t < minutes && t < FARTHEST; t++) {
                int start = t * HAMMOCKS;
                spots[start + h] = f.spot(h, f.minute + t);
                link(f, start, h);
            }
        }

        private void link(Forest f, int start, int h) {
            int bits = 0;
            for (int other = 0; other < size; other++) {
                if (other != h && f.areNear(spots[start + h], spots[start + other])) {
                    bits |= 1 << other;
                    near[start + other] |= 1 << h;
                } else {
                    near[start + other] &= ~(1 << h);
                }
            }
            near[start + h] = bits;
        }

        /** Who can have it a minute later; whoever is barred neither gives nor gets. */
        private int spread(int have, int t, int barred) {
            int got = have;
            for (int h = 0; h < size; h++) {
                if (((have & ~barred) >> h & 1) == 1) {
                    got |= near[t * HAMMOCKS + h] & ~barred;
                }
            }
            return got;
        }

        int holders(int from, int minutes) {
            int have = 1 << from;
            for (int t = 0; t < minutes && t < FARTHEST; t++) {
                have = spread(have, t, 0);
            }
            return have;
        }

        /** Behind how many minutes, at most limit, it is there first; NONE. */
        int arrival(int from, int to, int limit, int barred) {
            int have = 1 << from;
            int t = 0;
            for (; t < limit && t < FARTHEST && (have >> to & 1) == 0; t++) {
                have = spread(have, t, barred);
            }
            return (have >> to & 1) == 1 ? t : NONE;
        }

        int fewestHands(int from, int to) {
            for (int k = 0; k < HAMMOCKS; k++) {
                within[k] = 1 << from;
            }
            for (int t = 0; t < FARTHEST; t++) {
                // From the most hands down, so that no gift goes twice in a minute.
                for (int k = HAMMOCKS - 1; k > 0; k--) {
                    within[k] |= spread(within[k - 1], t, 0);
                }
            }
            for (int k = 0; k < HAMMOCKS; k++) {
                if ((within[k] >> to & 1) == 1) {
                    return k;
                }
            }
            return NONE;
        }
    }
}
