/**
 * Places, crossings of kinds, carriers who must go over each bridge by turns laden and empty,
 * and loads that are to come somewhere. What each call answers is told in ../shared/DOC.md;
 * the words of the comments here (LAND, ACT, BODY ..) are the document's.
 */
public final class LadenEmpty {
    public static final int NONE = -1000000, BAD = -1000001, STATE = -1000002, FULL = -1000003;

    private static final int NULL = 1, PLACE = 2, NO_SUCH_KIND = 3, SIZE = 4, STORE = 5;
    private static final int NOTHING_FOUND = -1000010;
    private static final int FAULT_AT_ZERO = -1000100;

    private static final int CROSSING = 0, BRIDGE = 1, GATE = 2, FORD = 3, PLANK = 4, FERRY = 5;

    private static final int TOWNS = 6, MOST_CROSSINGS = 6, MOST_CARRIERS = 3, MOST_LOADS = 4;
    private static final int MOST_STEPS = 9;
    private static final int MOST_ROWS = 8, MOST_ITEMS = 40;
    private static final int MOST_BYTES = 400;
    private static final int MOST_ACTS = 24;
    private static final int MOST_TRACED = 16;
    private static final int IMAGES = 2;

    private final Rows rows;
    private final Tape tape;
    private final Land land;
    private final Acts acts;
    private final Land[] images;
    private final Search search;
    private final Asks asks;
    private int finding;

    public LadenEmpty() {
        rows = new Rows();
        tape = new Tape();
        land = new Land();
        acts = new Acts();
        images = new Land[IMAGES];
        for (int k = 0; k < IMAGES; k++) {
            images[k] = new Land();
        }
        search = new Search(land);
        asks = new Asks(land);
    }

    // ---- rows

    public int row(int row, int lane, int n) {
        if (!isIn(row, MOST_ROWS) || !isIn(lane, Rows.LANES) || n > MOST_ITEMS) {
            return BAD;
        }
        if (n < 0) {
            return found(SIZE);
        }
        rows.make(row, lane, n);
        return well(n);
    }

    public int set(int row, int i, int v) {
        if (!isIn(row, MOST_ROWS)) {
            return BAD;
        }
        if (rows.isMissing(row)) {
            return found(NULL);
        }
        if (!isIn(i, rows.size[row])) {
            return found(PLACE);
        }
        rows.items[row][i] = rows.cutToLane(row, v);
        return well(rows.items[row][i]);
    }

    public int copy(int a, int i, int b, int j, int n) {
        if (!isIn(a, MOST_ROWS) || !isIn(b, MOST_ROWS)) {
            return BAD;
        }
        if (rows.isMissing(a) || rows.isMissing(b)) {
            return found(NULL);
        }
        if (rows.lane[a] != rows.lane[b]) {
            return found(STORE);
        }
        if (!rows.holds(a, i, n) || !rows.holds(b, j, n)) {
            return found(PLACE);
        }
        System.arraycopy(rows.items[a], i, rows.items[b], j, n);
        return well(n);
    }

    public int drop(int row) {
        if (!isIn(row, MOST_ROWS)) {
            return BAD;
        }
        if (rows.isMissing(row)) {
            return found(NULL);
        }
        int had = rows.size[row];
        rows.size[row] = Rows.MISSING;
        return well(had);
    }

    // ---- lands, acts

    public int feed(long w, int n) {
        if (n < 1 || n > 8) {
            return BAD;
        }
        if (n > MOST_BYTES - tape.length) {
            return FULL;
        }
        for (int i = n - 1; i >= 0; i--) {
            tape.add((byte) (w >>> (8 * i)));
        }
        return tape.length;
    }

    public int land() {
        boolean isRead = tape.read();
        tape.length = 0;
        if (!isRead) {
            return FAULT_AT_ZERO - tape.place;
        }
        land.become(tape.draft);
        acts.forget();
        return land.crossings;
    }

    public int fault() {
        return tape.fault;
    }

    public int go(int carrier, int crossing) {
        if (!land.isCarrier(carrier) || !land.isCrossing(crossing)) {
            return BAD;
        }
        if (!land.may(carrier, crossing)) {
            return STATE;
        }
        acts.keep(land.now);
        land.goOver(carrier, crossing);
        return land.now.town[carrier];
    }

    public int take(int carrier, int load) {
        if (!land.isCarrier(carrier) || !land.isLoad(load)) {
            return BAD;
        }
        if (land.isLaden(carrier) || land.now.lies[load] != land.now.town[carrier]) {
            return STATE;
        }
        acts.keep(land.now);
        land.now.has[carrier] = load;
        land.now.lies[load] = NONE;
        return load;
    }

    public int lay(int carrier) {
        if (!land.isCarrier(carrier)) {
            return BAD;
        }
        int load = land.now.has[carrier];
        if (!land.isLoad(load)) {
            return STATE;
        }
        acts.keep(land.now);
        land.now.has[carrier] = NONE;
        land.now.lies[load] = land.now.town[carrier];
        return load;
    }

    public int hand(int carrier, int to) {
        if (!land.isCarrier(carrier) || !land.isCarrier(to) || carrier == to) {
            return BAD;
        }
        boolean isTogether = land.now.town[carrier] == land.now.town[to];
        if (!land.isLaden(carrier) || land.isLaden(to) || !isTogether) {
            return STATE;
        }
        acts.keep(land.now);
        land.now.has[to] = land.now.has[carrier];
        land.now.has[carrier] = NONE;
        return land.now.has[to];
    }

    public int feast() {
        if (!land.isTold) {
            return STATE;
        }
        acts.keep(land.now);
        int bridges = land.bitsOf(BRIDGE);
        for (int c = 0; c < land.carriers; c++) {
            land.now.laden[c] ^= bridges;
        }
        land.now.gates ^= land.bitsOf(GATE);
        return 1;
    }

    public int put(int crossing, int is) {
        if (!land.isCrossing(crossing) || !isIn(is, 2)) {
            return BAD;
        }
        int was = land.now.up >> crossing & 1;
        acts.keep(land.now);
        land.now.up = land.now.up & ~(1 << crossing) | is << crossing;
        return was;
    }

    public int undo() {
        if (acts.count == 0) {
            return STATE;
        }
        acts.takeBack(land.now);
        return acts.count;
    }

    public int carrier(int carrier, int what) {
        if (!land.isCarrier(carrier)) {
            return BAD;
        }
        switch (what) {
            case 0: return land.now.town[carrier];
            case 1: return land.now.has[carrier];
            case 2: return land.now.laden[carrier];
            case 3: return land.mayGoOver(carrier);
            default: return BAD;
        }
    }

    public int load(int load, int what) {
        if (!land.isLoad(load)) {
            return BAD;
        }
        switch (what) {
            case 0: return land.now.lies[load];
            case 1: return land.goal[load];
            case 2: return land.whoHas(load);
            default: return BAD;
        }
    }

    // ---- foretold

    public int fewest(int carrier, int load) {
        if (!land.isCarrier(carrier) || !land.isLoad(load)) {
            return BAD;
        }
        return land.canBring(carrier, load) ? search.stepsToBring(carrier, load) : STATE;
    }

    public int whom(int load) {
        if (!land.isLoad(load)) {
            return BAD;
        }
        int best = NONE;
        int least = NONE;
        for (int c = 0; c < land.carriers; c++) {
            int steps = land.canBring(c, load) ? search.stepsToBring(c, load) : NONE;
            if (steps != NONE && (best == NONE || steps < least)) {
                best = c;
                least = steps;
            }
        }
        return best;
    }

    public int off(int carrier, int town) {
        if (!land.isCarrier(carrier) || !isIn(town, TOWNS)) {
            return BAD;
        }
        return search.stepsToTown(carrier, town);
    }

    public int reach(int carrier) {
        if (!land.isCarrier(carrier)) {
            return BAD;
        }
        int towns = 0;
        for (int town = 0; town < TOWNS; town++) {
            if (search.stepsToTown(carrier, town) != NONE) {
                towns |= 1 << town;
            }
        }
        return towns;
    }

    public int right(int carrier, int crossing) {
        if (!land.isCarrier(carrier) || !land.isSort(crossing, BRIDGE)) {
            return BAD;
        }
        return land.isLaden(carrier) ? STATE : search.stepsToRight(carrier, crossing);
    }

    public int walk(int row, int n, int what) {
        if (!land.isTold) {
            return STATE;
        }
        if (!isIn(row, MOST_ROWS) || n < 0 || n > MOST_ITEMS || !isIn(what, 3)) {
            return BAD;
        }
        if (rows.isMissing(row)) {
            return found(NULL);
        }
        if (n > rows.size[row]) {
            return found(PLACE);
        }
        for (int i = 0; i < n; i++) {
            if (!isIn(rows.items[row][i], 2 * land.crossings)) {
                return BAD;
            }
        }
        return well(walked(rows.items[row], n, what));
    }

    public int image(int k) {
        if (!isIn(k, IMAGES)) {
            return BAD;
        }
        if (!land.isTold) {
            return STATE;
        }
        images[k].become(land);
        return 1;
    }

    public int restore(int k) {
        if (!isIn(k, IMAGES)) {
            return BAD;
        }
        if (!images[k].isTold) {
            return STATE;
        }
        land.become(images[k]);
        acts.forget();
        return 1;
    }

    // ---- asked

    public int kind(int crossing) {
        return land.isCrossing(crossing) ? land.sort[crossing] : BAD;
    }

    public int as(int crossing, int kind) {
        if (!land.isCrossing(crossing) || kind < CROSSING || kind > FERRY) {
            return BAD;
        }
        return isKindOf(land.sort[crossing], kind) ? well(crossing) : found(NO_SUCH_KIND);
    }

    public int ask(int crossing, int what) {
        if (!land.isCrossing(crossing) || !isIn(what, 2)) {
            return BAD;
        }
        asks.traced = 0;
        return what == 0 ? asks.askSize(crossing) : asks.askMark(crossing);
    }

    public int trace(int i) {
        return isIn(i, asks.traced) ? asks.numbers[i] : NONE;
    }

    public int count(int what) {
        switch (what) {
            case 0: return rows.countThere();
            case 1: return land.crossings;
            case 2: return land.carriers;
            case 3: return land.loads;
            case 4: return acts.count;
            case 5: return land.now.gone;
            case 6: return land.now.gates;
            case 7: return tape.length;
            default: return BAD;
        }
    }

    public int status() {
        return finding;
    }

    // ---- helpers

    private static boolean isIn(int i, int n) {
        return i >= 0 && i < n;
    }

    private int found(int number) {
        finding = number;
        return NOTHING_FOUND - number;
    }

    private int well(int answer) {
        finding = 0;
        return answer;
    }

    private static boolean isKindOf(int sort, int kind) {
        return kind == CROSSING || kind == sort || kind == nearestAbove(sort);
    }

    private static int nearestAbove(int kind) {
        switch (kind) {
            case GATE: return BRIDGE;
            case PLANK: case FERRY: return FORD;
            default: return CROSSING;
        }
    }

    // FITS (0), SURE (1), WRONG (2) of steps that are all told of crossings there are.
    private int walked(int[] steps, int n, int what) {
        int turning = land.bitsOf(BRIDGE) | land.bitsOf(GATE);
        int known = 0;
        int ladenLast = 0;
        int sure = 0;
        for (int i = 0; i < n; i++) {
            int bit = 1 << (steps[i] >> 1) & turning;
            int laden = (steps[i] & 1) == 1 ? bit : 0;
            if ((known & bit) != 0 && (ladenLast & bit) == laden) {
                return wrongAt(i, what);
            }
            sure |= laden & ~known;
            known |= bit;
            ladenLast = ladenLast & ~bit | laden;
        }
        switch (what) {
            case 0: return 1 << Integer.bitCount(turning & ~known);
            case 1: return sure;
            default: return NONE;
        }
    }

    private static int wrongAt(int i, int what) {
        switch (what) {
            case 0: return 0;
            case 1: return NONE;
            default: return i;
        }
    }

    /** The eight ROWS; what an ITEM is stands as the LANE reads it. */
    private static final class Rows {
        static final int LANES = 3, BYTES = 0, SHORTS = 1, MISSING = -1;

        final int[] lane = new int[MOST_ROWS];
        final int[] size = new int[MOST_ROWS];
        final int[][] items = new int[MOST_ROWS][MOST_ITEMS];

        Rows() {
            for (int r = 0; r < MOST_ROWS; r++) {
                size[r] = MISSING;
            }
        }

        boolean isMissing(int row) {
            return size[row] == MISSING;
        }

        void make(int row, int newLane, int n) {
            lane[row] = newLane;
            size[row] = n;
            for (int i = 0; i < MOST_ITEMS; i++) {
                items[row][i] = 0;
            }
        }

        int cutToLane(int row, int v) {
            switch (lane[row]) {
                case BYTES: return (byte) v;
                case SHORTS: return (short) v;
                default: return v;
            }
        }

        // Whether there are n ITEMS from i on; a size less i cannot wrap where i is not below 0.
        boolean holds(int row, int i, int n) {
            return i >= 0 && n >= 0 && n <= size[row] - i;
        }

        int countThere() {
            int there = 0;
            for (int r = 0; r < MOST_ROWS; r++) {
                if (!isMissing(r)) {
                    there++;
                }
            }
            return there;
        }
    }

    /** What ACTS make another: it is kept whole ahead of each, so that each is undone alike. */
    private static final class Standing {
        final int[] town = new int[MOST_CARRIERS];
        final int[] has = new int[MOST_CARRIERS];
        final int[] laden = new int[MOST_CARRIERS];
        final int[] lies = new int[MOST_LOADS];
        int up;
        int gates;
        int gone;

        void become(Standing other) {
            System.arraycopy(other.town, 0, town, 0, MOST_CARRIERS);
            System.arraycopy(other.has, 0, has, 0, MOST_CARRIERS);
            System.arraycopy(other.laden, 0, laden, 0, MOST_CARRIERS);
            System.arraycopy(other.lies, 0, lies, 0, MOST_LOADS);
            up = other.up;
            gates = other.gates;
            gone = other.gone;
        }
    }

    /** The ACTS that can be undone, a ring: for each, how all stood ahead of it. */
    private static final class Acts {
        final Standing[] kept = new Standing[MOST_ACTS];
        int count;
        int next;

        Acts() {
            for (int i = 0; i < MOST_ACTS; i++) {
                kept[i] = new Standing();
            }
        }

        void keep(Standing now) {
            kept[next].become(now);
            next = (next + 1) % MOST_ACTS;
            count = Math.min(count + 1, MOST_ACTS);
        }

        void takeBack(Standing now) {
            next = (next + MOST_ACTS - 1) % MOST_ACTS;
            now.become(kept[next]);
            count--;
        }

        void forget() {
            count = 0;
        }
    }

    /** A LAND: what its text told for good, and how all stand now. */
    private static final class Land {
        boolean isTold;
        int crossings;
        final int[] sort = new int[MOST_CROSSINGS];
        final int[] endA = new int[MOST_CROSSINGS];
        final int[] endB = new int[MOST_CROSSINGS];
        final int[] steps = new int[MOST_CROSSINGS];
        int carriers;
        int loads;
        final int[] goal = new int[MOST_LOADS];
        final Standing now = new Standing();

        void become(Land other) {
            isTold = other.isTold;
            crossings = other.crossings;
            System.arraycopy(other.sort, 0, sort, 0, MOST_CROSSINGS);
            System.arraycopy(other.endA, 0, endA, 0, MOST_CROSSINGS);
            System.arraycopy(other.endB, 0, endB, 0, MOST_CROSSINGS);
            System.arraycopy(other.steps, 0, steps, 0, MOST_CROSSINGS);
            carriers = other.carriers;
            loads = other.loads;
            System.arraycopy(other.goal, 0, goal, 0, MOST_LOADS);
            now.become(other.now);
        }

        boolean isCrossing(int x) {
            return isIn(x, crossings);
        }

        boolean isCarrier(int c) {
            return isIn(c, carriers);
        }

        boolean isLoad(int l) {
            return isIn(l, loads);
        }

        boolean isSort(int x, int told) {
            return isCrossing(x) && sort[x] == told;
        }

        int bitsOf(int told) {
            int bits = 0;
            for (int x = 0; x < crossings; x++) {
                if (sort[x] == told) {
                    bits |= 1 << x;
                }
            }
            return bits;
        }

        boolean isLaden(int carrier) {
            return now.has[carrier] != NONE;
        }

        int otherEnd(int x, int town) {
            if (town == endA[x]) {
                return endB[x];
            }
            return town == endB[x] ? endA[x] : NONE;
        }

        // What is next of a CARRIER and of gates: no bit is of both.
        int nextLaden(int carrier) {
            return now.laden[carrier] | now.gates;
        }

        boolean may(int carrier, int x) {
            if ((now.up >> x & 1) == 0 || otherEnd(x, now.town[carrier]) == NONE) {
                return false;
            }
            switch (sort[x]) {
                case FORD: return true;
                case PLANK: return !isLaden(carrier);
                case FERRY: return isLaden(carrier);
                default: return isLaden(carrier) == ((nextLaden(carrier) >> x & 1) == 1);
            }
        }

        int mayGoOver(int carrier) {
            int bits = 0;
            for (int x = 0; x < crossings; x++) {
                if (may(carrier, x)) {
                    bits |= 1 << x;
                }
            }
            return bits;
        }

        void goOver(int carrier, int x) {
            now.town[carrier] = otherEnd(x, now.town[carrier]);
            now.gone += steps[x];
            if (sort[x] == BRIDGE) {
                now.laden[carrier] ^= 1 << x;
            } else if (sort[x] == GATE) {
                now.gates ^= 1 << x;
            }
        }

        int whoHas(int load) {
            for (int c = 0; c < carriers; c++) {
                if (now.has[c] == load) {
                    return c;
                }
            }
            return NONE;
        }

        boolean canBring(int carrier, int load) {
            if (isLaden(carrier)) {
                return now.has[carrier] == load;
            }
            return whoHas(load) == NONE;
        }
    }

    /** The tape, and the reading of it into a draft, which counts only when all of it is read. */
    private static final class Tape {
        static final int END = 0, NAME = 1, NUMBER = 2, SIGN = 3, NO_TOKEN = 4;
        static final int MISPLACED = 1, NOT_AS_TOLD = 2, NO_ROOM = 3;
        static final int MOST_FIGURES = 3;

        final byte[] bytes = new byte[MOST_BYTES];
        int length;
        final Land draft = new Land();
        int token;
        int number;
        int from;
        int to;
        int fault;
        int place;

        void add(byte b) {
            if (length < MOST_BYTES) {
                bytes[length] = b;
                length++;
            }
        }

        boolean read() {
            to = 0;
            clearDraft();
            advance();
            if (!isWord("crossing")) {
                return failWith(MISPLACED);
            }
            for (int x = 0; x <= MOST_CROSSINGS && isWord("crossing"); x++) {
                if (!readCrossing()) {
                    return false;
                }
            }
            draft.now.up = (1 << draft.crossings) - 1;
            for (int c = 0; c <= MOST_CARRIERS && isWord("carrier"); c++) {
                if (!readCarrier()) {
                    return false;
                }
            }
            for (int l = 0; l <= MOST_LOADS && isWord("load"); l++) {
                if (!readLoad()) {
                    return false;
                }
            }
            return token == END || failWith(MISPLACED);
        }

        // No ACT is ever done in the draft: its gates, and STEPS gone, are 0 from the first.
        void clearDraft() {
            draft.isTold = true;
            draft.crossings = 0;
            draft.carriers = 0;
            draft.loads = 0;
        }

        boolean readCrossing() {
            int x = draft.crossings;
            if (x >= MOST_CROSSINGS) {
                return failWith(NO_ROOM);
            }
            advance();
            draft.sort[x] = sortNamed();
            if (draft.sort[x] == CROSSING) {
                return failWith(MISPLACED);
            }
            if (!readNumber(0, TOWNS - 1)) {
                return false;
            }
            draft.endA[x] = number;
            if (!readNumber(0, TOWNS - 1)) {
                return false;
            }
            if (number == draft.endA[x]) {
                return failWith(NOT_AS_TOLD);
            }
            draft.endB[x] = number;
            if (!readNumber(1, MOST_STEPS)) {
                return false;
            }
            draft.steps[x] = number;
            draft.crossings++;
            return readEnd();
        }

        boolean readCarrier() {
            int c = draft.carriers;
            if (c >= MOST_CARRIERS) {
                return failWith(NO_ROOM);
            }
            if (!readNumber(0, TOWNS - 1)) {
                return false;
            }
            draft.now.town[c] = number;
            if (!readNumber(0, draft.now.up)) {
                return false;
            }
            draft.now.laden[c] = number & draft.bitsOf(BRIDGE);
            draft.now.has[c] = NONE;
            draft.carriers++;
            return readEnd();
        }

        boolean readLoad() {
            int l = draft.loads;
            if (l >= MOST_LOADS) {
                return failWith(NO_ROOM);
            }
            if (!readNumber(0, TOWNS - 1)) {
                return false;
            }
            draft.now.lies[l] = number;
            if (!readNumber(0, TOWNS - 1)) {
                return false;
            }
            draft.goal[l] = number;
            draft.loads++;
            return readEnd();
        }

        boolean readNumber(int least, int most) {
            advance();
            if (token != NUMBER) {
                return failWith(MISPLACED);
            }
            return number >= least && number <= most || failWith(NOT_AS_TOLD);
        }

        // The sign behind a crossing, a carrier, a load; the next TOKEN is looked at then.
        boolean readEnd() {
            advance();
            if (token != SIGN) {
                return failWith(MISPLACED);
            }
            advance();
            return true;
        }

        boolean failWith(int what) {
            fault = what;
            place = from;
            return false;
        }

        int sortNamed() {
            if (isWord("bridge")) {
                return BRIDGE;
            }
            if (isWord("ford")) {
                return FORD;
            }
            if (isWord("plank")) {
                return PLANK;
            }
            if (isWord("ferry")) {
                return FERRY;
            }
            return isWord("gate") ? GATE : CROSSING;
        }

        boolean isWord(String word) {
            if (token != NAME || to - from != word.length()) {
                return false;
            }
            for (int i = 0; i < word.length(); i++) {
                if (bytes[from + i] != word.charAt(i)) {
                    return false;
                }
            }
            return true;
        }

        void advance() {
            from = to;
            while (from < length && (bytes[from] == 32 || bytes[from] == 10)) {
                from++;
            }
            to = from;
            if (from >= length) {
                token = END;
            } else if (isLetter(bytes[from])) {
                advanceName();
            } else if (isFigure(bytes[from])) {
                advanceNumber();
            } else {
                token = bytes[from] == ';' ? SIGN : NO_TOKEN;
                to = from + 1;
            }
        }

        void advanceName() {
            token = NAME;
            while (to < length && isLetter(bytes[to])) {
                to++;
            }
        }

        void advanceNumber() {
            number = 0;
            while (to < length && isFigure(bytes[to])) {
                number = 10 * number + bytes[to] - '0';
                to++;
            }
            token = to - from <= MOST_FIGURES ? NUMBER : NO_TOKEN;
        }

        static boolean isLetter(byte b) {
            return b >= 'a' && b <= 'z';
        }

        static boolean isFigure(byte b) {
            return b >= '0' && b <= '9';
        }
    }

    /**
     * The fewest STEPS to where one wants to be. A cell is a TOWN of the CARRIER and a place of
     * what he carries; of each cell the sets of bridges and gates over which he may be to go
     * laden next stand as the 64 bits of one long. So all sets that come to a cell behind as
     * many STEPS are moved at once, and only the next nine layers of STEPS need to be kept.
     */
    private static final class Search {
        // The places 0 to 5: it lies in that TOWN.
        static final int WITH_HIM = 6, NO_MATTER = 7, PLACES = 8;
        static final int TAKES_NOTHING = 0, TAKES_LOAD = 1, TAKES_STONES = 2;
        static final int CELLS = TOWNS * PLACES, LAYERS = MOST_STEPS + 1;
        static final int FARTHEST = CELLS * 64 * MOST_STEPS;
        static final long ALL_SETS = -1L;
        // The sets (bits of a long) in which crossing x is.
        static final long[] SETS_WITH = {
            0xAAAAAAAAAAAAAAAAL, 0xCCCCCCCCCCCCCCCCL, 0xF0F0F0F0F0F0F0F0L,
            0xFF00FF00FF00FF00L, 0xFFFF0000FFFF0000L, 0xFFFFFFFF00000000L
        };

        final Land land;
        final long[] coming = new long[LAYERS * CELLS];
        final long[] seen = new long[CELLS];
        int takes;
        int usable;
        int last;

        Search(Land land) {
            this.land = land;
        }

        int stepsToBring(int carrier, int load) {
            int goal = land.goal[load];
            int lies = land.now.lies[load];
            if (lies == goal) {
                return 0;
            }
            begin(TAKES_LOAD, land.now.up);
            start(carrier, lies == NONE ? WITH_HIM : lies);
            return stepsTo(goal * PLACES + goal, ALL_SETS);
        }

        int stepsToTown(int carrier, int town) {
            int place = land.isLaden(carrier) ? WITH_HIM : NO_MATTER;
            begin(TAKES_NOTHING, land.now.up);
            start(carrier, place);
            return stepsTo(town * PLACES + place, ALL_SETS);
        }

        int stepsToRight(int carrier, int bridge) {
            begin(TAKES_STONES, land.now.up & ~land.bitsOf(GATE));
            start(carrier, NO_MATTER);
            int wanted = land.nextLaden(carrier) ^ 1 << bridge;
            return stepsTo(land.now.town[carrier] * PLACES + NO_MATTER, 1L << wanted);
        }

        void begin(int whatHeTakes, int crossingsToUse) {
            takes = whatHeTakes;
            usable = crossingsToUse;
            last = 0;
            for (int i = 0; i < coming.length; i++) {
                coming[i] = 0;
            }
            for (int i = 0; i < CELLS; i++) {
                seen[i] = 0;
            }
        }

        void start(int carrier, int place) {
            coming[land.now.town[carrier] * PLACES + place] = 1L << land.nextLaden(carrier);
        }

        int stepsTo(int goalCell, long goalSets) {
            for (int far = 0; far <= last && far <= FARTHEST; far++) {
                int layer = far % LAYERS * CELLS;
                for (int town = 0; town < TOWNS; town++) {
                    takeAndLay(layer, town);
                }
                for (int cell = 0; cell < CELLS; cell++) {
                    long fresh = coming[layer + cell] & ~seen[cell];
                    coming[layer + cell] = 0;
                    if (fresh != 0) {
                        seen[cell] |= fresh;
                        goOn(cell, fresh, far);
                    }
                }
                if ((seen[goalCell] & goalSets) != 0) {
                    return far;
                }
            }
            return NONE;
        }

        // Taking and laying costs no STEPS: what comes to one of the two cells is in both.
        void takeAndLay(int layer, int town) {
            if (takes == TAKES_NOTHING) {
                return;
            }
            int empty = layer + town * PLACES + (takes == TAKES_LOAD ? town : NO_MATTER);
            int laden = layer + town * PLACES + WITH_HIM;
            long both = coming[empty] | coming[laden];
            coming[empty] = both;
            coming[laden] = both;
        }

        void goOn(int cell, long sets, int far) {
            int town = cell / PLACES;
            int place = cell % PLACES;
            for (int x = 0; x < land.crossings; x++) {
                int other = land.otherEnd(x, town);
                if ((usable >> x & 1) == 0 || other == NONE) {
                    continue;
                }
                int target = other * PLACES + place;
                long moved = setsBehind(x, place == WITH_HIM, sets) & ~seen[target];
                if (moved != 0) {
                    int then = far + land.steps[x];
                    coming[then % LAYERS * CELLS + target] |= moved;
                    last = Math.max(last, then);
                }
            }
        }

        // A set is a bit's number: to have crossing x no more, or anew, shifts it by 1 << x.
        long setsBehind(int x, boolean isLaden, long sets) {
            switch (land.sort[x]) {
                case FORD: return sets;
                case PLANK: return isLaden ? 0 : sets;
                case FERRY: return isLaden ? sets : 0;
                default:
                    return isLaden ? (sets & SETS_WITH[x]) >>> (1 << x)
                        : (sets & ~SETS_WITH[x]) << (1 << x);
            }
        }
    }

    /** ASKS of a CROSSING that there is, and THE TRACE; a BODY is named by its number. */
    private static final class Asks {
        final Land land;
        final int[] numbers = new int[MOST_TRACED];
        int traced;

        Asks(Land land) {
            this.land = land;
        }

        int askSize(int x) {
            switch (land.sort[x]) {
                case BRIDGE: return body11(x);
                case GATE: return body12(x);
                case PLANK: return body14(x);
                case FORD: case FERRY: return body13(x);
                default: return body10(x);
            }
        }

        int askMark(int x) {
            switch (land.sort[x]) {
                case BRIDGE: return body21(x);
                case GATE: return body22(x);
                case FERRY: return body24(x);
                case FORD: case PLANK: return body23(x);
                default: return body20(x);
            }
        }

        int body10(int x) {
            leave(10);
            return land.steps[x];
        }

        // Only BRIDGES come here: their MARK is asked here, lest askMark lead back to itself.
        int body11(int x) {
            leave(11);
            int lent = body10(x);
            return lent + (land.sort[x] == GATE ? body22(x) : body21(x));
        }

        int body12(int x) {
            leave(12);
            return -body11(x);
        }

        int body13(int x) {
            leave(13);
            return body10(x) - 100;
        }

        int body14(int x) {
            leave(14);
            return 2 * body13(x);
        }

        int body20(int x) {
            leave(20);
            return x;
        }

        int body21(int x) {
            leave(21);
            return body20(x) + land.endA[x];
        }

        int body22(int x) {
            leave(22);
            return body21(x) - 1000;
        }

        // Only FORDS come here: their SIZE is asked here, lest askSize lead back to itself.
        int body23(int x) {
            leave(23);
            int lent = body20(x);
            return lent - (land.sort[x] == PLANK ? body14(x) : body13(x));
        }

        int body24(int x) {
            leave(24);
            return 2 * body23(x);
        }

        void leave(int number) {
            if (traced < MOST_TRACED) {
                numbers[traced] = number;
                traced++;
            }
        }
    }
}
