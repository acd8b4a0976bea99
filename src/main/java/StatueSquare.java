/**
 * A square told in a text, and what of a statue in it is seen from which bench.
 * The class itself holds the refusals and FAULTS of each call; what a call answers
 * once it is taken stands in the classes inside.
 */
public final class StatueSquare {
    public static final int UNKNOWN = -1, OUTSIDE = -2, STATE = -3, FULL = -4, NONE = -9;
    public static final long LOST = Long.MIN_VALUE;

    private static final int NO_FAULT = 0, FAULT_NULL = 1, FAULT_CAST = 2, FAULT_INDEX = 3, FAULT_SIZE = 4;
    private static final int FAULT_BASE = -10, TEXT_FAULT_BASE = -100;
    private static final int SHEETS = 4, LANES = 3, LONGEST_ROW = 100;
    private static final int MOST_CELLS = 42, MOST_BENCHES = 12, MOST_THINGS = 10;
    private static final int LAST_YEAR = 30, HIGHEST_BLOCK = 9, DEAREST = 9;
    private static final int LAMP = 0, URN = 1, TREE = 2, KINDS = 3;
    private static final int HAS_NOTHING = 0, HAS_BENCH = 1, HAS_THING = 10;

    private final Sheet[] sheets;
    private final TextReader reader;
    private final Ground ground;
    private int traced;
    private int latestFault;

    public StatueSquare() {
        sheets = new Sheet[SHEETS];
        for (int k = 0; k < SHEETS; k++) {
            sheets[k] = new Sheet();
        }
        reader = new TextReader();
        ground = new Ground();
        traced = 0;
        latestFault = NO_FAULT;
    }

    // ---- 1 the square

    public int square(int sheet, int lane, int i, int n) {
        latestFault = NO_FAULT;
        if (!isBelow(sheet, SHEETS)) {
            return UNKNOWN;
        }
        if (!isBelow(lane, LANES)) {
            return OUTSIDE;
        }
        Sheet from = sheets[sheet];
        int met = from.faultAsRow(lane);
        if (met == NO_FAULT && n < 0) {
            met = FAULT_SIZE;
        }
        if (met == NO_FAULT && !from.hasSpan(i, n)) {
            met = FAULT_INDEX;
        }
        if (met != NO_FAULT) {
            return failed(met);
        }
        int textFault = reader.read(from, i, n);
        if (textFault != TextReader.WELL) {
            return TEXT_FAULT_BASE - textFault;
        }
        ground.layOut(reader);
        return ground.cellCount;
    }

    public int cellHas(int c) {
        return isBelow(c, ground.cellCount) ? ground.has[c] : UNKNOWN;
    }

    public int ofThing(int t, int what) {
        if (!isBelow(t, ground.thingCount)) {
            return UNKNOWN;
        }
        switch (what) {
            case 0: return ground.kind[t];
            case 1: return ground.thingCell[t];
            case 2: return ground.tallAtFirst[t];
            case 3: return ground.tallIn(t, ground.yearNow);
            case 4: return ground.isThere(t) ? 0 : 1;
            case 5: return ground.cost[t];
            default: return OUTSIDE;
        }
    }

    public int bench(int b) {
        return isBelow(b, ground.benchCount) ? ground.benchCell[b] : UNKNOWN;
    }

    public int year(int y, boolean winter) {
        if (!isBelow(y, LAST_YEAR + 1)) {
            return OUTSIDE;
        }
        if (!ground.isLaid()) {
            return STATE;
        }
        int before = ground.yearNow;
        ground.yearNow = y;
        ground.isWinter = winter;
        return before;
    }

    public int cut(int t, boolean is) {
        if (!isBelow(t, ground.thingCount)) {
            return UNKNOWN;
        }
        if (ground.isThere(t) != is) {
            return 0;
        }
        ground.cutThings ^= 1 << t;
        return 1;
    }

    public int price(int t, int v) {
        if (!isBelow(t, ground.thingCount)) {
            return UNKNOWN;
        }
        if (v < 1 || v > DEAREST) {
            return OUTSIDE;
        }
        int before = ground.cost[t];
        ground.cost[t] = v;
        return before;
    }

    // ---- 2 the statue

    public int statue(int c, int block) {
        if (!isBelow(c, ground.cellCount)) {
            return UNKNOWN;
        }
        if (!isBelow(block, HIGHEST_BLOCK + 1)) {
            return OUTSIDE;
        }
        if (!ground.isFree(c)) {
            return STATE;
        }
        int before = ground.statueCell;
        ground.statueCell = c;
        ground.statueBlock = block;
        return before;
    }

    public int seen(int b) {
        if (!isBelow(b, ground.benchCount)) {
            return UNKNOWN;
        }
        return ground.hasStatue() ? ground.partsSeen(b, ground.statueCell) : STATE;
    }

    public int whole() {
        return ground.hasStatue() ? ground.benchesThatSeeWhole() : STATE;
    }

    public int hidden(int b) {
        if (!isBelow(b, ground.benchCount)) {
            return UNKNOWN;
        }
        return ground.hasStatue() ? ground.hiders(b) : STATE;
    }

    public long sight(int which) {
        if (!isBelow(which, 2) || !ground.hasStatue()) {
            return LOST;
        }
        int upper = ground.partsSeenInAll();
        int lower = Math.max(1, Ground.PARTS * ground.benchCount);
        return (which == 0 ? upper : lower) / greatestDivisor(upper, lower);
    }

    // ---- 3 where, what to cut

    public int best(int block, int what) {
        if (!isBelow(block, HIGHEST_BLOCK + 1) || !isBelow(what, 2)) {
            return OUTSIDE;
        }
        if (!ground.isLaid()) {
            return STATE;
        }
        int c = ground.bestCell(block);
        if (what == 0) {
            return c;
        }
        return c == NONE ? 0 : ground.countWhole(c, block);
    }

    public int block(int c, int what) {
        if (!isBelow(c, ground.cellCount)) {
            return UNKNOWN;
        }
        if (!isBelow(what, 2)) {
            return OUTSIDE;
        }
        if (!ground.isFree(c)) {
            return STATE;
        }
        int least = ground.leastBlock(c);
        return what == 0 ? least : ground.countWhole(c, least);
    }

    public int cuts(int what) {
        if (!isBelow(what, 2)) {
            return OUTSIDE;
        }
        if (!ground.hasStatue()) {
            return STATE;
        }
        int things = ground.allHiders();
        return what == 0 ? things : ground.costOf(things);
    }

    // ---- 4 complaints, a second one, light

    public int complaints() {
        return ground.hasStatue() ? ground.complainers(0, ground.yearNow) : STATE;
    }

    public int moved(int complaints) {
        if (complaints >>> ground.benchCount != 0) {
            return OUTSIDE;
        }
        return ground.hasStatue() ? ground.thingsThatLeave(complaints) : STATE;
    }

    public int years() {
        return ground.hasStatue() ? ground.firstYearOfComplaint() : STATE;
    }

    public long second() {
        return ground.hasStatue() ? ground.unseenCells() : LOST;
    }

    public int lit(int what) {
        if (!isBelow(what, 2)) {
            return OUTSIDE;
        }
        if (!ground.hasStatue()) {
            return STATE;
        }
        return what == 0 ? ground.fewestLamps() : ground.partsLitByAny();
    }

    // ---- 5 sheets, parts

    public int sheet(int k, int lane, int n) {
        latestFault = NO_FAULT;
        if (!isBelow(k, SHEETS)) {
            return UNKNOWN;
        }
        if (!isBelow(lane, LANES) || n > LONGEST_ROW) {
            return OUTSIDE;
        }
        if (n < 0) {
            return failed(FAULT_SIZE);
        }
        sheets[k].renew(lane, n);
        return 1;
    }

    public int lose(int k) {
        if (!isBelow(k, SHEETS)) {
            return UNKNOWN;
        }
        boolean had = sheets[k].hasRow;
        sheets[k].hasRow = false;
        return had ? 1 : 0;
    }

    public int put(int k, int i, int v) {
        latestFault = NO_FAULT;
        if (!isBelow(k, SHEETS)) {
            return UNKNOWN;
        }
        Sheet to = sheets[k];
        if (!to.hasRow) {
            return failed(FAULT_NULL);
        }
        if (!isBelow(i, to.length)) {
            return failed(FAULT_INDEX);
        }
        to.write(i, v);
        return 1;
    }

    public long cell(int k, int i, int lane) {
        latestFault = NO_FAULT;
        if (!isBelow(k, SHEETS) || !isBelow(lane, LANES)) {
            return LOST;
        }
        Sheet from = sheets[k];
        int met = from.faultAsRow(lane);
        if (met == NO_FAULT && !isBelow(i, from.length)) {
            met = FAULT_INDEX;
        }
        if (met != NO_FAULT) {
            latestFault = met;
            return LOST;
        }
        return from.row[i];
    }

    public int copy(int k, int i, int other, int j, int n) {
        latestFault = NO_FAULT;
        if (!isBelow(k, SHEETS) || !isBelow(other, SHEETS)) {
            return UNKNOWN;
        }
        Sheet from = sheets[k];
        Sheet to = sheets[other];
        if (!from.hasRow || !to.hasRow) {
            return failed(FAULT_NULL);
        }
        if (from.lane != to.lane) {
            return failed(FAULT_CAST);
        }
        if (!from.hasSpan(i, n) || !to.hasSpan(j, n)) {
            return failed(FAULT_INDEX);
        }
        System.arraycopy(from.row, i, to.row, j, n);
        return n;
    }

    public int tell(int t) {
        if (!isBelow(t, ground.thingCount)) {
            return UNKNOWN;
        }
        switch (ground.kind[t]) {
            case TREE: return tellTree(t);
            case URN: return tellUrn(t);
            default: return tellLamp(t);
        }
    }

    public int tend(int t) {
        if (!isBelow(t, ground.thingCount)) {
            return UNKNOWN;
        }
        return ground.kind[t] == TREE ? tendTree() : tendLent(t);
    }

    public int as(int t, int kind) {
        latestFault = NO_FAULT;
        if (!isBelow(t, ground.thingCount)) {
            return UNKNOWN;
        }
        if (!isBelow(kind, KINDS)) {
            return OUTSIDE;
        }
        // Each kind is also one of every kind with a lesser number.
        return ground.kind[t] < kind ? failed(FAULT_CAST) : 1;
    }

    public int trace() {
        return traced;
    }

    public int fault() {
        return latestFault;
    }

    public int many(int what) {
        switch (what) {
            case 0: return ground.cellCount;
            case 1: return ground.wide;
            case 2: return ground.benchCount;
            case 3: return ground.thingCount;
            case 4: return ground.yearNow;
            default: return OUTSIDE;
        }
    }

    private int failed(int which) {
        latestFault = which;
        return FAULT_BASE - which;
    }

    private int tellLamp(int t) {
        leaveInTrace(1);
        return ground.tallAtFirst[t];
    }

    private int tellUrn(int t) {
        leaveInTrace(2);
        return tellLamp(t) + 100;
    }

    private int tellTree(int t) {
        leaveInTrace(3);
        int asUrn = tellUrn(t);
        return asUrn + tellLamp(t);
    }

    private int tendLent(int t) {
        leaveInTrace(4);
        return t;
    }

    private int tendTree() {
        leaveInTrace(5);
        return 40;
    }

    private void leaveInTrace(int number) {
        traced = 31 * traced + number;
    }

    private static boolean isBelow(int number, int bound) {
        return number >= 0 && number < bound;
    }

    /** The greatest divisor of both; lower is above 0. */
    private static int greatestDivisor(int upper, int lower) {
        for (int d = lower; d > 1; d--) {
            if (upper % d == 0 && lower % d == 0) {
                return d;
            }
        }
        return 1;
    }

    /** Has nothing, or a row of a LANE; the one array serves every row that it gets. */
    private static final class Sheet {
        final int[] row;
        boolean hasRow;
        int lane;
        int length;

        Sheet() {
            row = new int[LONGEST_ROW];
            hasRow = false;
            lane = 0;
            length = 0;
        }

        void renew(int newLane, int newLength) {
            hasRow = true;
            lane = newLane;
            length = newLength;
            for (int i = 0; i < newLength; i++) {
                row[i] = 0;
            }
        }

        void write(int i, int v) {
            switch (lane) {
                case 0: row[i] = (byte) v; break;
                case 1: row[i] = (short) v; break;
                default: row[i] = v; break;
            }
        }

        int faultAsRow(int asLane) {
            if (!hasRow) {
                return FAULT_NULL;
            }
            return lane == asLane ? NO_FAULT : FAULT_CAST;
        }

        boolean hasSpan(int i, int n) {
            // Taken away, not added: i + n may wrap.
            return i >= 0 && i <= length && n >= 0 && n <= length - i;
        }
    }

    /** Reads a TEXT apart from the ground, so that a faulty TEXT leaves the old SQUARE as it was. */
    private static final class TextReader {
        static final int WELL = -1;
        private static final int NO_CODE = -1;

        final int[] signs;
        final int[] digits;
        int high;
        int wide;
        private final int[] codes;
        private int length;
        private int place;
        private int benches;
        private int things;

        TextReader() {
            signs = new int[MOST_CELLS];
            digits = new int[MOST_CELLS];
            codes = new int[LONGEST_ROW];
        }

        /** The FIRST FAULT, or WELL. What can't be taken is left at place, and so is the end. */
        int read(Sheet from, int i, int n) {
            System.arraycopy(from.row, i, codes, 0, n);
            length = n;
            place = 0;
            benches = 0;
            things = 0;
            if (!takeSign('q')) {
                return place;
            }
            high = takeDigit(1, 6);
            if (high == NONE) {
                return place;
            }
            wide = takeDigit(2, 7);
            if (wide == NONE) {
                return place;
            }
            boolean good = takeRows();
            return good && place == length ? WELL : place;
        }

        private boolean takeRows() {
            for (int r = 0; r < high; r++) {
                if (!takeSign(';')) {
                    return false;
                }
                for (int k = 0; k < wide; k++) {
                    if (!takeCell(r * wide + k)) {
                        return false;
                    }
                }
            }
            return true;
        }

        private boolean takeCell(int c) {
            int code = nextCode();
            signs[c] = code;
            switch (code) {
                case '.':
                    place++;
                    return true;
                case 'b':
                    return takeBench();
                case 'l':
                case 'u':
                case 't':
                    return takeThing(c);
                default:
                    return false;
            }
        }

        private boolean takeBench() {
            if (benches == MOST_BENCHES) {
                return false;
            }
            benches++;
            place++;
            return true;
        }

        private boolean takeThing(int c) {
            if (things == MOST_THINGS) {
                return false;
            }
            things++;
            place++;
            digits[c] = takeDigit(1, 9);
            return digits[c] != NONE;
        }

        private boolean takeSign(int sign) {
            if (nextCode() != sign) {
                return false;
            }
            place++;
            return true;
        }

        private int takeDigit(int least, int most) {
            int digit = nextCode() - '0';
            if (digit < least || digit > most) {
                return NONE;
            }
            place++;
            return digit;
        }

        private int nextCode() {
            return place < length ? codes[place] : NO_CODE;
        }
    }

    /** The SQUARE with its STATUE. Without a SQUARE it has no CELLS. */
    private static final class Ground {
        static final int PARTS = 4;
        private static final int[] PART_HEIGHTS = {1, 3, 5, 7};
        /** The line to the foot is the lowest one: what is IN THE WAY of some PART is so of the foot. */
        private static final int FOOT_HEIGHT = 1;
        private static final int EYE = 2;
        private static final int LIGHT_REACH = 3;

        int wide;
        int cellCount;
        int benchCount;
        int thingCount;
        final int[] has;
        private final int[] rowOf;
        private final int[] columnOf;
        final int[] benchCell;
        final int[] kind;
        final int[] thingCell;
        final int[] tallAtFirst;
        final int[] cost;
        int cutThings;
        int yearNow;
        boolean isWinter;
        int statueCell;
        int statueBlock;

        Ground() {
            has = new int[MOST_CELLS];
            rowOf = new int[MOST_CELLS];
            columnOf = new int[MOST_CELLS];
            benchCell = new int[MOST_BENCHES];
            kind = new int[MOST_THINGS];
            thingCell = new int[MOST_THINGS];
            tallAtFirst = new int[MOST_THINGS];
            cost = new int[MOST_THINGS];
            statueCell = NONE;
        }

        void layOut(TextReader text) {
            wide = text.wide;
            cellCount = 0;
            benchCount = 0;
            thingCount = 0;
            for (int r = 0; r < text.high; r++) {
                for (int k = 0; k < text.wide; k++) {
                    rowOf[cellCount] = r;
                    columnOf[cellCount] = k;
                    layCell(cellCount, text.signs[cellCount], text.digits[cellCount]);
                    cellCount++;
                }
            }
            cutThings = 0;
            yearNow = 0;
            isWinter = false;
            statueCell = NONE;
            statueBlock = 0;
        }

        private void layCell(int c, int sign, int digit) {
            switch (sign) {
                case 'b': layBench(c); break;
                case 'l': layThing(c, LAMP, digit); break;
                case 'u': layThing(c, URN, digit); break;
                case 't': layThing(c, TREE, digit); break;
                default: has[c] = HAS_NOTHING; break;
            }
        }

        private void layBench(int c) {
            has[c] = HAS_BENCH;
            benchCell[benchCount] = c;
            benchCount++;
        }

        private void layThing(int c, int itsKind, int tall) {
            has[c] = HAS_THING + thingCount;
            kind[thingCount] = itsKind;
            thingCell[thingCount] = c;
            tallAtFirst[thingCount] = tall;
            cost[thingCount] = 1;
            thingCount++;
        }

        boolean isLaid() {
            return cellCount > 0;
        }

        boolean hasStatue() {
            return statueCell != NONE;
        }

        /** By the TEXT: where a THING is CUT it may grow again, so its CELL never becomes free. */
        boolean isFree(int c) {
            return has[c] == HAS_NOTHING;
        }

        boolean isThere(int t) {
            return ((cutThings >> t) & 1) == 0;
        }

        int tallIn(int t, int y) {
            int tall = tallAtFirst[t];
            if (kind[t] != LAMP && !isWinter) {
                tall++;
            }
            if (kind[t] == TREE) {
                tall += y / 3;
                if (isWinter) {
                    tall /= 2;
                }
            }
            return tall;
        }

        /** The greatest number of like steps from one CELL's midst to another's by CELLS' midsts. */
        private int stepsBetween(int c, int d) {
            int rows = Math.abs(rowOf[c] - rowOf[d]);
            int columns = Math.abs(columnOf[c] - columnOf[d]);
            for (int steps = Math.max(rows, columns); steps > 1; steps--) {
                if (rows % steps == 0 && columns % steps == 0) {
                    return steps;
                }
            }
            return 1;
        }

        /** THINGS that are IN THE WAY from a BENCH to a height above CELL c's ground, as a set. */
        private int inTheWay(int b, int c, int height, int y) {
            int from = benchCell[b];
            int steps = stepsBetween(from, c);
            int stride = (c - from) / steps;
            int found = 0;
            for (int m = 1; m < steps; m++) {
                int t = has[from + m * stride] - HAS_THING;
                if (t >= 0 && isThere(t)) {
                    int lineTimesSteps = EYE * steps + m * (height - EYE);
                    if (tallIn(t, y) * steps >= lineTimesSteps) {
                        found |= 1 << t;
                    }
                }
            }
            return found;
        }

        int partsSeen(int b, int c) {
            int parts = 0;
            for (int p = 0; p < PARTS; p++) {
                if (inTheWay(b, c, statueBlock + PART_HEIGHTS[p], yearNow) == 0) {
                    parts |= 1 << p;
                }
            }
            return parts;
        }

        int partsSeenInAll() {
            int count = 0;
            for (int b = 0; b < benchCount; b++) {
                count += Integer.bitCount(partsSeen(b, statueCell));
            }
            return count;
        }

        int hiders(int b) {
            return inTheWay(b, statueCell, statueBlock + FOOT_HEIGHT, yearNow);
        }

        /** Each of them must be CUT, and nothing else need be: so these are the cheapest. */
        int allHiders() {
            int things = 0;
            for (int b = 0; b < benchCount; b++) {
                things |= hiders(b);
            }
            return things;
        }

        int costOf(int things) {
            int sum = 0;
            for (int t = 0; t < thingCount; t++) {
                if (((things >> t) & 1) != 0) {
                    sum += cost[t];
                }
            }
            return sum;
        }

        /** BENCHES that would not see the STATUE WHOLE in a year, if a set of THINGS were not there. */
        int complainers(int without, int y) {
            int benches = 0;
            for (int b = 0; b < benchCount; b++) {
                if ((inTheWay(b, statueCell, statueBlock + FOOT_HEIGHT, y) & ~without) != 0) {
                    benches |= 1 << b;
                }
            }
            return benches;
        }

        int benchesThatSeeWhole() {
            return ((1 << benchCount) - 1) & ~complainers(0, yearNow);
        }

        int countWhole(int c, int block) {
            int count = 0;
            for (int b = 0; b < benchCount; b++) {
                if (inTheWay(b, c, block + FOOT_HEIGHT, yearNow) == 0) {
                    count++;
                }
            }
            return count;
        }

        int bestCell(int block) {
            int found = NONE;
            int most = -1;
            for (int c = 0; c < cellCount; c++) {
                int count = isFree(c) ? countWhole(c, block) : -1;
                if (count > most) {
                    found = c;
                    most = count;
                }
            }
            return found;
        }

        int leastBlock(int c) {
            int found = 0;
            int most = -1;
            for (int block = 0; block <= HIGHEST_BLOCK; block++) {
                int count = countWhole(c, block);
                if (count > most) {
                    found = block;
                    most = count;
                }
            }
            return found;
        }

        int thingsThatLeave(int told) {
            int things = 0;
            for (int t = 0; t < thingCount; t++) {
                if (isThere(t) && complainers(1 << t, yearNow) == told) {
                    things |= 1 << t;
                }
            }
            return things;
        }

        int firstYearOfComplaint() {
            for (int y = yearNow; y <= LAST_YEAR; y++) {
                if (complainers(0, y) != 0) {
                    return y;
                }
            }
            return NONE;
        }

        long unseenCells() {
            int watchers = benchesThatSeeWhole();
            long cells = 0;
            for (int c = 0; c < cellCount; c++) {
                if (isFree(c) && c != statueCell && !isSeenFromAny(watchers, c)) {
                    cells |= 1L << c;
                }
            }
            return cells;
        }

        private boolean isSeenFromAny(int benches, int c) {
            for (int b = 0; b < benchCount; b++) {
                if (((benches >> b) & 1) != 0 && partsSeen(b, c) != 0) {
                    return true;
                }
            }
            return false;
        }

        private int partsLitBy(int t) {
            int rows = Math.abs(rowOf[thingCell[t]] - rowOf[statueCell]);
            int columns = Math.abs(columnOf[thingCell[t]] - columnOf[statueCell]);
            boolean near = rows <= LIGHT_REACH && columns <= LIGHT_REACH;
            // Just kind 0: an URN is a LAMP, but gives no light.
            if (kind[t] != LAMP || !isThere(t) || !near) {
                return 0;
            }
            int parts = 0;
            for (int p = 0; p < PARTS; p++) {
                if (statueBlock + PART_HEIGHTS[p] <= tallIn(t, yearNow)) {
                    parts |= 1 << p;
                }
            }
            return parts;
        }

        int partsLitByAny() {
            int parts = 0;
            for (int t = 0; t < thingCount; t++) {
                parts |= partsLitBy(t);
            }
            return parts;
        }

        /** What lights a PART lights all below it: so one alone lights all that any can. */
        int fewestLamps() {
            int all = partsLitByAny();
            if (all == 0) {
                return 0;
            }
            for (int t = 0; t < thingCount; t++) {
                if (partsLitBy(t) == all) {
                    return 1 << t;
                }
            }
            return 0;
        }
    }
}
