import java.util.ArrayList;
import java.util.List;

/**
 * The document told a second time, by its words and without a thought for cost: FAULTS are those of
 * the machine itself, kinds are classes, lines are scanned cell by cell, sets are tried one by one.
 */
final class Model {
    private static final int UNKNOWN = -1, OUTSIDE = -2, STATE = -3, NONE = -9;
    private static final long LOST = Long.MIN_VALUE;

    private interface Tended {
        default int tended(Model m) {
            m.leave(4);
            return m.things.indexOf(this);
        }
    }

    private static class Lamp implements Tended {
        int cell;
        int first;
        int price = 1;
        boolean isCut = false;

        int tall(int year, boolean winter) {
            return first;
        }

        int told(Model m) {
            m.leave(1);
            return first;
        }

        final int toldAsLamp(Model m) {
            m.leave(1);
            return first;
        }
    }

    private static class Urn extends Lamp {
        @Override int tall(int year, boolean winter) {
            return winter ? first : first + 1;
        }

        @Override int told(Model m) {
            m.leave(2);
            return super.told(m) + 100;
        }
    }

    private static final class Tree extends Urn {
        @Override int tall(int year, boolean winter) {
            int grown = super.tall(year, winter) + Math.floorDiv(year, 3);
            return winter ? Math.floorDiv(grown, 2) : grown;
        }

        @Override int told(Model m) {
            m.leave(3);
            return super.told(m) + toldAsLamp(m);
        }

        @Override public int tended(Model m) {
            m.leave(5);
            return 40;
        }
    }

    private final Object[] sheets = new Object[4];
    private String cells = "";
    private int wide = 0;
    private List<Integer> benches = new ArrayList<>();
    private List<Lamp> things = new ArrayList<>();
    private int year = 0;
    private boolean winter = false;
    private int place = NONE;
    private int height = 0;
    private int trace = 0;
    private int fault = 0;

    private void leave(int number) {
        trace = 31 * trace + number;
    }

    private static boolean in(long v, long least, long most) {
        return least <= v && v <= most;
    }

    private boolean isThing(int t) {
        return in(t, 0, things.size() - 1);
    }

    private boolean isBench(int b) {
        return in(b, 0, benches.size() - 1);
    }

    private boolean isCell(int c) {
        return in(c, 0, cells.length() - 1);
    }

    private int faulty(RuntimeException e) {
        if (e instanceof NullPointerException) {
            fault = 1;
        } else if (e instanceof ClassCastException || e instanceof ArrayStoreException) {
            fault = 2;
        } else if (e instanceof IndexOutOfBoundsException) {
            fault = 3;
        } else if (e instanceof NegativeArraySizeException) {
            fault = 4;
        } else {
            throw e;
        }
        return -10 - fault;
    }

    private static Object cast(Object row, int lane) {
        if (lane == 0) {
            return (byte[]) row;
        }
        if (lane == 1) {
            return (short[]) row;
        }
        return (int[]) row;
    }

    private static Object make(int lane, int n) {
        if (lane == 0) {
            return new byte[n];
        }
        return lane == 1 ? (Object) new short[n] : (Object) new int[n];
    }

    private static int get(Object row, int i) {
        if (row instanceof byte[]) {
            return ((byte[]) row)[i];
        }
        return row instanceof short[] ? ((short[]) row)[i] : ((int[]) row)[i];
    }

    private static int length(Object row) {
        return java.lang.reflect.Array.getLength(row);
    }

    // ---- 1

    int square(int sheet, int lane, int i, int n) {
        fault = 0;
        if (!in(sheet, 0, 3)) {
            return UNKNOWN;
        }
        if (!in(lane, 0, 2)) {
            return OUTSIDE;
        }
        Object text;
        try {
            Object row = cast(sheets[sheet], lane);
            length(row);
            text = make(lane, Math.min(n, 1000));
            System.arraycopy(row, i, text, 0, n);
        } catch (RuntimeException e) {
            return faulty(e);
        }
        StringBuilder read = new StringBuilder();
        for (int k = 0; k < n; k++) {
            int code = get(text, k);
            if (goesOn(read.toString()).indexOf((char) code) < 0 || code < 0 || code > 127) {
                return -100 - k;
            }
            read.append((char) code);
        }
        if (!goesOn(read.toString()).isEmpty()) {
            return -100 - n;
        }
        lay(read.toString());
        return cells.length();
    }

    /** The signs with which a good beginning of a TEXT may go on; none if it is whole. */
    private static String goesOn(String begun) {
        if (begun.isEmpty()) {
            return "q";
        }
        if (begun.length() == 1) {
            return "123456";
        }
        if (begun.length() == 2) {
            return "234567";
        }
        char last = begun.charAt(begun.length() - 1);
        if (begun.length() > 3 && "lut".indexOf(last) >= 0) {
            return "123456789";
        }
        int high = begun.charAt(1) - '0';
        int wide = begun.charAt(2) - '0';
        String signs = begun.substring(3).replaceAll("[0-9]", "");
        int rows = (int) signs.chars().filter(s -> s == ';').count();
        int inRow = signs.length() - 1 - signs.lastIndexOf(';');
        if (rows == 0 || inRow == wide) {
            return rows == high ? "" : ";";
        }
        long benches = signs.chars().filter(s -> s == 'b').count();
        long things = signs.chars().filter(s -> "lut".indexOf(s) >= 0).count();
        return "." + (benches < 12 ? "b" : "") + (things < 10 ? "lut" : "");
    }

    private void lay(String text) {
        wide = text.charAt(2) - '0';
        cells = text.substring(3).replaceAll("[0-9;]", "");
        String digits = text.substring(3).replaceAll("[^0-9]", "");
        benches = new ArrayList<>();
        things = new ArrayList<>();
        for (int c = 0; c < cells.length(); c++) {
            char sign = cells.charAt(c);
            if (sign == 'b') {
                benches.add(c);
            } else if (sign != '.') {
                Lamp made = sign == 'l' ? new Lamp() : sign == 'u' ? new Urn() : new Tree();
                made.cell = c;
                made.first = digits.charAt(things.size()) - '0';
                things.add(made);
            }
        }
        year = 0;
        winter = false;
        place = NONE;
    }

    int cellHas(int c) {
        if (!isCell(c)) {
            return UNKNOWN;
        }
        for (int t = 0; t < things.size(); t++) {
            if (things.get(t).cell == c) {
                return 10 + t;
            }
        }
        return benches.contains(c) ? 1 : 0;
    }

    int ofThing(int t, int what) {
        if (!isThing(t)) {
            return UNKNOWN;
        }
        if (!in(what, 0, 5)) {
            return OUTSIDE;
        }
        Lamp it = things.get(t);
        int kind = it instanceof Tree ? 2 : it instanceof Urn ? 1 : 0;
        int[] all = {kind, it.cell, it.first, it.tall(year, winter), it.isCut ? 1 : 0, it.price};
        return all[what];
    }

    int bench(int b) {
        return isBench(b) ? benches.get(b) : UNKNOWN;
    }

    int year(int y, boolean isWinter) {
        if (!in(y, 0, 30)) {
            return OUTSIDE;
        }
        if (cells.isEmpty()) {
            return STATE;
        }
        int was = year;
        year = y;
        winter = isWinter;
        return was;
    }

    int cut(int t, boolean is) {
        if (!isThing(t)) {
            return UNKNOWN;
        }
        boolean was = things.get(t).isCut;
        things.get(t).isCut = is;
        return was == is ? 0 : 1;
    }

    int price(int t, int v) {
        if (!isThing(t)) {
            return UNKNOWN;
        }
        if (!in(v, 1, 9)) {
            return OUTSIDE;
        }
        int was = things.get(t).price;
        things.get(t).price = v;
        return was;
    }

    // ---- 2

    int statue(int c, int block) {
        if (!isCell(c)) {
            return UNKNOWN;
        }
        if (!in(block, 0, 9)) {
            return OUTSIDE;
        }
        if (cells.charAt(c) != '.') {
            return STATE;
        }
        int was = place;
        place = c;
        height = block;
        return was;
    }

    /** Whether a THING is IN THE WAY of a PART of a STATUE on CELL c, in the YEAR that is. */
    private boolean inTheWay(Lamp it, int b, int c, int block, int part) {
        if (it.isCut) {
            return false;
        }
        int from = benches.get(b);
        int rows = c / wide - from / wide;
        int columns = c % wide - from % wide;
        int itsRows = it.cell / wide - from / wide;
        int itsColumns = it.cell % wide - from % wide;
        for (int steps = 6; steps > 1; steps--) {
            if (rows % steps != 0 || columns % steps != 0) {
                continue;
            }
            for (int m = 1; m < steps; m++) {
                if (itsRows * steps == rows * m && itsColumns * steps == columns * m) {
                    int target = block + 1 + 2 * part;
                    return it.tall(year, winter) * steps - 2 * steps >= m * (target - 2);
                }
            }
            return false;
        }
        return false;
    }

    private int partsSeen(int b, int c, int block) {
        int set = 0;
        for (int part = 0; part < 4; part++) {
            boolean free = true;
            for (Lamp it : things) {
                free &= !inTheWay(it, b, c, block, part);
            }
            set |= free ? 1 << part : 0;
        }
        return set;
    }

    private int wholeOf(int c, int block) {
        int set = 0;
        for (int b = 0; b < benches.size(); b++) {
            set |= partsSeen(b, c, block) == 15 ? 1 << b : 0;
        }
        return set;
    }

    int seen(int b) {
        if (!isBench(b)) {
            return UNKNOWN;
        }
        return place == NONE ? STATE : partsSeen(b, place, height);
    }

    int whole() {
        return place == NONE ? STATE : wholeOf(place, height);
    }

    int hidden(int b) {
        if (!isBench(b)) {
            return UNKNOWN;
        }
        if (place == NONE) {
            return STATE;
        }
        int set = 0;
        for (int t = 0; t < things.size(); t++) {
            for (int part = 0; part < 4; part++) {
                set |= inTheWay(things.get(t), b, place, height, part) ? 1 << t : 0;
            }
        }
        return set;
    }

    long sight(int which) {
        if (!in(which, 0, 1) || place == NONE) {
            return LOST;
        }
        int upper = 0;
        for (int b = 0; b < benches.size(); b++) {
            upper += Integer.bitCount(partsSeen(b, place, height));
        }
        int lower = 4 * benches.size();
        if (upper == 0) {
            return which;
        }
        int g = java.math.BigInteger.valueOf(upper).gcd(java.math.BigInteger.valueOf(lower)).intValue();
        return which == 0 ? upper / g : lower / g;
    }

    // ---- 3

    int best(int block, int what) {
        if (!in(block, 0, 9) || !in(what, 0, 1)) {
            return OUTSIDE;
        }
        if (cells.isEmpty()) {
            return STATE;
        }
        for (int count = benches.size(); count >= 0; count--) {
            for (int c = 0; c < cells.length(); c++) {
                if (cells.charAt(c) == '.' && Integer.bitCount(wholeOf(c, block)) == count) {
                    return what == 0 ? c : count;
                }
            }
        }
        return what == 0 ? NONE : 0;
    }

    int block(int c, int what) {
        if (!isCell(c)) {
            return UNKNOWN;
        }
        if (!in(what, 0, 1)) {
            return OUTSIDE;
        }
        if (cells.charAt(c) != '.') {
            return STATE;
        }
        int most = 0;
        for (int block = 0; block <= 9; block++) {
            most = Math.max(most, Integer.bitCount(wholeOf(c, block)));
        }
        int block = 0;
        while (Integer.bitCount(wholeOf(c, block)) < most) {
            block++;
        }
        return what == 0 ? block : most;
    }

    int cuts(int what) {
        if (!in(what, 0, 1)) {
            return OUTSIDE;
        }
        if (place == NONE) {
            return STATE;
        }
        List<Lamp> there = new ArrayList<>(things);
        there.removeIf(it -> it.isCut);
        int bestSet = -1;
        int bestCost = 1000;
        for (int pick = 0; pick < 1 << there.size(); pick++) {
            int set = 0;
            int cost = 0;
            for (int k = 0; k < there.size(); k++) {
                boolean in = (pick >> k & 1) == 1;
                there.get(k).isCut = in;
                set |= in ? 1 << things.indexOf(there.get(k)) : 0;
                cost += in ? there.get(k).price : 0;
            }
            boolean all = Integer.bitCount(wholeOf(place, height)) == benches.size();
            if (all && (cost < bestCost || cost == bestCost && set < bestSet)) {
                bestSet = set;
                bestCost = cost;
            }
        }
        there.forEach(it -> it.isCut = false);
        return what == 0 ? bestSet : bestCost;
    }

    // ---- 4

    int complaints() {
        return place == NONE ? STATE : (1 << benches.size()) - 1 - wholeOf(place, height);
    }

    int moved(int complaints) {
        if ((complaints & -(1 << benches.size())) != 0) {
            return OUTSIDE;
        }
        if (place == NONE) {
            return STATE;
        }
        int set = 0;
        for (int t = 0; t < things.size(); t++) {
            if (!things.get(t).isCut) {
                things.get(t).isCut = true;
                set |= complaints() == complaints ? 1 << t : 0;
                things.get(t).isCut = false;
            }
        }
        return set;
    }

    int years() {
        if (place == NONE) {
            return STATE;
        }
        int was = year;
        int found = NONE;
        for (year = was; year <= 30 && found == NONE; year++) {
            found = complaints() != 0 ? year : NONE;
        }
        year = was;
        return found;
    }

    long second() {
        if (place == NONE) {
            return LOST;
        }
        int watchers = whole();
        long set = 0;
        for (int c = 0; c < cells.length(); c++) {
            boolean unseen = cells.charAt(c) == '.' && c != place;
            for (int b = 0; b < benches.size(); b++) {
                unseen &= (watchers >> b & 1) == 0 || partsSeen(b, c, height) == 0;
            }
            set |= unseen ? 1L << c : 0;
        }
        return set;
    }

    private int litBy(int set) {
        int parts = 0;
        for (int t = 0; t < things.size(); t++) {
            Lamp it = things.get(t);
            boolean lights = (set >> t & 1) == 1 && !it.isCut && it.getClass() == Lamp.class
                && in(it.cell / wide - place / wide, -3, 3) && in(it.cell % wide - place % wide, -3, 3);
            for (int part = 0; part < 4; part++) {
                parts |= lights && height + 1 + 2 * part <= it.tall(year, winter) ? 1 << part : 0;
            }
        }
        return parts;
    }

    int lit(int what) {
        if (!in(what, 0, 1)) {
            return OUTSIDE;
        }
        if (place == NONE) {
            return STATE;
        }
        int all = litBy(-1);
        if (what == 1) {
            return all;
        }
        int found = (1 << things.size()) - 1;
        for (int set = found; set >= 0; set--) {
            if (litBy(set) == all && Integer.bitCount(set) <= Integer.bitCount(found)) {
                found = set;
            }
        }
        return found;
    }

    // ---- 5

    int sheet(int k, int lane, int n) {
        fault = 0;
        if (!in(k, 0, 3)) {
            return UNKNOWN;
        }
        if (!in(lane, 0, 2) || n > 100) {
            return OUTSIDE;
        }
        try {
            sheets[k] = make(lane, n);
            return 1;
        } catch (RuntimeException e) {
            return faulty(e);
        }
    }

    int lose(int k) {
        if (!in(k, 0, 3)) {
            return UNKNOWN;
        }
        boolean had = sheets[k] != null;
        sheets[k] = null;
        return had ? 1 : 0;
    }

    int put(int k, int i, int v) {
        fault = 0;
        if (!in(k, 0, 3)) {
            return UNKNOWN;
        }
        try {
            Object row = sheets[k];
            if (row instanceof byte[]) {
                ((byte[]) row)[i] = (byte) v;
            } else if (row instanceof short[]) {
                ((short[]) row)[i] = (short) v;
            } else {
                ((int[]) row)[i] = v;
            }
            return 1;
        } catch (RuntimeException e) {
            return faulty(e);
        }
    }

    long cell(int k, int i, int lane) {
        fault = 0;
        if (!in(k, 0, 3) || !in(lane, 0, 2)) {
            return LOST;
        }
        try {
            return get(cast(sheets[k], lane), i);
        } catch (RuntimeException e) {
            faulty(e);
            return LOST;
        }
    }

    int copy(int k, int i, int other, int j, int n) {
        fault = 0;
        if (!in(k, 0, 3) || !in(other, 0, 3)) {
            return UNKNOWN;
        }
        try {
            System.arraycopy(sheets[k], i, sheets[other], j, n);
            return n;
        } catch (RuntimeException e) {
            return faulty(e);
        }
    }

    int tell(int t) {
        return isThing(t) ? things.get(t).told(this) : UNKNOWN;
    }

    int tend(int t) {
        return isThing(t) ? things.get(t).tended(this) : UNKNOWN;
    }

    int as(int t, int kind) {
        fault = 0;
        if (!isThing(t)) {
            return UNKNOWN;
        }
        if (!in(kind, 0, 2)) {
            return OUTSIDE;
        }
        try {
            Lamp it = things.get(t);
            Lamp taken = kind == 0 ? it : kind == 1 ? (Urn) it : (Tree) it;
            return taken == it ? 1 : 0;
        } catch (ClassCastException e) {
            return faulty(e);
        }
    }

    int trace() {
        return trace;
    }

    int fault() {
        return fault;
    }

    int many(int what) {
        if (!in(what, 0, 4)) {
            return OUTSIDE;
        }
        int[] all = {cells.length(), wide, benches.size(), things.size(), year};
        return all[what];
    }
}
