import java.util.function.Supplier;
import java.util.function.ToLongFunction;

/**
 * REFUSALS and FAULTS, call by call in the document's order: what each answers, that it changes
 * nothing, and what fault() tells after it. Each is tried on one of two like objects; all that
 * can be asked of the two must then be the same.
 */
public final class RefusalsTest {
    private static final int UNKNOWN = -1, OUTSIDE = -2, STATE = -3;
    private static final int NULL = -11, CAST = -12, INDEX = -13, SIZE = -14;
    private static final long LOST = Long.MIN_VALUE;
    private static final int LEAST = Integer.MIN_VALUE, MOST = Integer.MAX_VALUE;
    /** Six CELLS: a BENCH, a LAMP, nothing; an URN, a TREE, nothing. */
    private static final String TEXT = "q23;bl9.;u4t5.";
    private static final int CELLS = 6, BENCHES = 1, THINGS = 3;
    /** What the made objects tell ahead of the call: a CAST. */
    private static final int OLD_FAULT = 2;

    private static final Check check = new Check();

    public static void main(String[] args) {
        ofTheSquare();
        ofThings();
        ofTheStatue();
        ofWhatTheStatueShows();
        ofPlaces();
        ofComplaints();
        ofSquare();
        ofSheets();
        ofCells();
        ofCopy();
        ofKinds();
        check.end();
    }

    // ---- the objects

    /** No SQUARE; SHEET 0 has two bytes, SHEET 1 three ints, the others nothing. */
    private static StatueSquare bare() {
        StatueSquare x = new StatueSquare();
        return withSheetsAndFault(x);
    }

    private static StatueSquare laid() {
        StatueSquare x = Check.laid(TEXT);
        x.year(7, true);
        x.cut(1, true);
        x.price(2, 4);
        x.tell(2);
        return withSheetsAndFault(x);
    }

    private static StatueSquare standing() {
        StatueSquare x = laid();
        x.statue(5, 3);
        return x;
    }

    private static StatueSquare withSheetsAndFault(StatueSquare x) {
        x.lose(3);
        x.sheet(0, 0, 2);
        x.put(0, 0, 'q');
        x.put(0, 1, '1');
        x.sheet(1, 2, 3);
        x.put(1, 2, MOST);
        x.cell(0, 0, 1);
        return x;
    }

    /** All that can be asked but fault(), which asking SHEETS changes; the light shows the block. */
    private static String all(StatueSquare x) {
        StringBuilder told = new StringBuilder();
        for (int what = 0; what < 5; what++) {
            told.append(x.many(what)).append(' ');
        }
        told.append(x.trace()).append(" cells ");
        for (int c = 0; c <= CELLS; c++) {
            told.append(x.cellHas(c)).append(' ').append(x.block(c, 0)).append(' ');
        }
        for (int b = 0; b <= BENCHES; b++) {
            told.append("bench ").append(x.bench(b)).append(' ').append(x.seen(b)).append(' ');
        }
        for (int t = 0; t <= THINGS; t++) {
            told.append("thing ");
            for (int what = 0; what < 6; what++) {
                told.append(x.ofThing(t, what)).append(' ');
            }
        }
        told.append("light ").append(x.lit(0)).append(' ').append(x.lit(1)).append(" sheets ");
        for (int k = 0; k < 4; k++) {
            for (int i = 0; i < 4; i++) {
                for (int lane = 0; lane < 3; lane++) {
                    told.append(x.cell(k, i, lane)).append(' ').append(x.fault()).append(' ');
                }
            }
        }
        return told.append("statue ").append(x.statue(2, 0)).toString();
    }

    /** A call that names no FAULTS: fault() stays as it was. */
    private static void refused(String what, Supplier<StatueSquare> made, ToLongFunction<StatueSquare> call, long want) {
        failed(what, made, call, want, OLD_FAULT);
    }

    private static void failed(String what, Supplier<StatueSquare> made, ToLongFunction<StatueSquare> call,
            long want, int fault) {
        StatueSquare x = made.get();
        StatueSquare like = made.get();
        check.due(what, call.applyAsLong(x), want);
        check.due(what + ", fault()", x.fault(), fault);
        String is = all(x);
        String was = all(like);
        check.isTrue(what + " changes nothing: " + is + " / " + was, is.equals(was));
    }

    // ---- calls that name no FAULTS

    private static void ofTheSquare() {
        check.about("cellHas, bench, year, many");
        int[] noCell = {-1, CELLS, LEAST, MOST};
        for (int c : noCell) {
            refused("cellHas " + c, RefusalsTest::standing, x -> x.cellHas(c), UNKNOWN);
        }
        int[] noBench = {-1, BENCHES, LEAST, MOST};
        for (int b : noBench) {
            refused("bench " + b, RefusalsTest::standing, x -> x.bench(b), UNKNOWN);
        }
        int[] noYear = {-1, 31, LEAST, MOST};
        for (int y : noYear) {
            refused("year " + y, RefusalsTest::standing, x -> x.year(y, false), OUTSIDE);
            refused("year " + y, RefusalsTest::bare, x -> x.year(y, true), OUTSIDE);
        }
        refused("year, no SQUARE", RefusalsTest::bare, x -> x.year(30, true), STATE);
        int[] noWhat = {-1, 5, LEAST, MOST};
        for (int what : noWhat) {
            refused("many " + what, RefusalsTest::standing, x -> x.many(what), OUTSIDE);
        }
    }

    private static void ofThings() {
        check.about("ofThing, cut, price, tell, tend");
        int[] noThing = {-1, THINGS, 32, LEAST, MOST};
        for (int t : noThing) {
            refused("ofThing " + t, RefusalsTest::standing, x -> x.ofThing(t, 0), UNKNOWN);
            refused("ofThing, what, " + t, RefusalsTest::standing, x -> x.ofThing(t, 6), UNKNOWN);
            refused("cut " + t, RefusalsTest::standing, x -> x.cut(t, true), UNKNOWN);
            refused("grow " + t, RefusalsTest::standing, x -> x.cut(t, false), UNKNOWN);
            refused("price " + t, RefusalsTest::standing, x -> x.price(t, 9), UNKNOWN);
            refused("price, v, " + t, RefusalsTest::standing, x -> x.price(t, 10), UNKNOWN);
            refused("tell " + t, RefusalsTest::standing, x -> x.tell(t), UNKNOWN);
            refused("tend " + t, RefusalsTest::standing, x -> x.tend(t), UNKNOWN);
        }
        int[] noWhat = {-1, 6, LEAST, MOST};
        for (int what : noWhat) {
            refused("ofThing what " + what, RefusalsTest::standing, x -> x.ofThing(2, what), OUTSIDE);
        }
        int[] noPrice = {0, 10, -1, LEAST, MOST};
        for (int v : noPrice) {
            refused("price of " + v, RefusalsTest::standing, x -> x.price(2, v), OUTSIDE);
        }
        refused("cut: it was so", RefusalsTest::standing, x -> x.cut(1, true), 0);
        refused("cut: it was so", RefusalsTest::standing, x -> x.cut(0, false), 0);
    }

    private static void ofTheStatue() {
        check.about("statue");
        int[] noCell = {-1, CELLS, LEAST, MOST};
        for (int c : noCell) {
            refused("statue " + c, RefusalsTest::standing, x -> x.statue(c, 0), UNKNOWN);
            refused("statue, block, " + c, RefusalsTest::laid, x -> x.statue(c, 10), UNKNOWN);
        }
        int[] noBlock = {-1, 10, LEAST, MOST};
        for (int block : noBlock) {
            refused("block " + block, RefusalsTest::standing, x -> x.statue(2, block), OUTSIDE);
            refused("block " + block, RefusalsTest::laid, x -> x.statue(2, block), OUTSIDE);
            refused("block, a bench, " + block, RefusalsTest::standing, x -> x.statue(0, block), OUTSIDE);
        }
        int[] taken = {0, 1, 3, 4};
        for (int c : taken) {
            refused("taken " + c, RefusalsTest::standing, x -> x.statue(c, 0), STATE);
            refused("taken " + c, RefusalsTest::laid, x -> x.statue(c, 9), STATE);
        }
    }

    private static void ofWhatTheStatueShows() {
        check.about("seen, whole, hidden, sight");
        int[] noBench = {-1, BENCHES, LEAST, MOST};
        for (int b : noBench) {
            refused("seen " + b, RefusalsTest::standing, x -> x.seen(b), UNKNOWN);
            refused("seen, no statue, " + b, RefusalsTest::laid, x -> x.seen(b), UNKNOWN);
            refused("hidden " + b, RefusalsTest::standing, x -> x.hidden(b), UNKNOWN);
            refused("hidden, no statue, " + b, RefusalsTest::laid, x -> x.hidden(b), UNKNOWN);
        }
        refused("seen", RefusalsTest::laid, x -> x.seen(0), STATE);
        refused("hidden", RefusalsTest::laid, x -> x.hidden(0), STATE);
        refused("whole", RefusalsTest::laid, x -> x.whole(), STATE);
        refused("whole", RefusalsTest::bare, x -> x.whole(), STATE);
        int[] noNumber = {-1, 2, LEAST, MOST};
        for (int which : noNumber) {
            refused("sight " + which, RefusalsTest::standing, x -> x.sight(which), LOST);
        }
        refused("sight", RefusalsTest::laid, x -> x.sight(0), LOST);
        refused("sight", RefusalsTest::bare, x -> x.sight(1), LOST);
    }

    private static void ofPlaces() {
        check.about("best, block, cuts");
        int[] noBlock = {-1, 10, LEAST, MOST};
        for (int block : noBlock) {
            refused("best " + block, RefusalsTest::standing, x -> x.best(block, 0), OUTSIDE);
            refused("best, no SQUARE, " + block, RefusalsTest::bare, x -> x.best(block, 0), OUTSIDE);
        }
        int[] noWhat = {-1, 2, LEAST, MOST};
        for (int what : noWhat) {
            refused("best what " + what, RefusalsTest::standing, x -> x.best(0, what), OUTSIDE);
            refused("best, no SQUARE, what " + what, RefusalsTest::bare, x -> x.best(9, what), OUTSIDE);
            refused("block what " + what, RefusalsTest::standing, x -> x.block(2, what), OUTSIDE);
            refused("block, a bench, what " + what, RefusalsTest::standing, x -> x.block(0, what), OUTSIDE);
            refused("cuts what " + what, RefusalsTest::standing, x -> x.cuts(what), OUTSIDE);
            refused("cuts, no statue, what " + what, RefusalsTest::laid, x -> x.cuts(what), OUTSIDE);
        }
        refused("best", RefusalsTest::bare, x -> x.best(0, 0), STATE);
        int[] noCell = {-1, CELLS, LEAST, MOST};
        for (int c : noCell) {
            refused("block " + c, RefusalsTest::standing, x -> x.block(c, 0), UNKNOWN);
            refused("block, what, " + c, RefusalsTest::standing, x -> x.block(c, 2), UNKNOWN);
        }
        int[] taken = {0, 1, 3, 4};
        for (int c : taken) {
            refused("block, taken " + c, RefusalsTest::standing, x -> x.block(c, 0), STATE);
        }
        refused("cuts", RefusalsTest::laid, x -> x.cuts(0), STATE);
        refused("cuts", RefusalsTest::bare, x -> x.cuts(1), STATE);
    }

    private static void ofComplaints() {
        check.about("complaints, moved, years, second, lit, lose");
        refused("complaints", RefusalsTest::laid, x -> x.complaints(), STATE);
        refused("years", RefusalsTest::laid, x -> x.years(), STATE);
        refused("second", RefusalsTest::laid, x -> x.second(), LOST);
        int[] noBenches = {2, 3, -1, LEAST, MOST};
        for (int set : noBenches) {
            refused("moved " + set, RefusalsTest::standing, x -> x.moved(set), OUTSIDE);
            refused("moved, no statue, " + set, RefusalsTest::laid, x -> x.moved(set), OUTSIDE);
        }
        refused("moved", RefusalsTest::laid, x -> x.moved(1), STATE);
        refused("moved", RefusalsTest::bare, x -> x.moved(0), STATE);
        refused("moved, no SQUARE", RefusalsTest::bare, x -> x.moved(1), OUTSIDE);
        int[] noWhat = {-1, 2, LEAST, MOST};
        for (int what : noWhat) {
            refused("lit " + what, RefusalsTest::standing, x -> x.lit(what), OUTSIDE);
            refused("lit, no statue, " + what, RefusalsTest::laid, x -> x.lit(what), OUTSIDE);
        }
        refused("lit", RefusalsTest::laid, x -> x.lit(0), STATE);
        int[] noSheet = {-1, 4, LEAST, MOST};
        for (int k : noSheet) {
            refused("lose " + k, RefusalsTest::standing, x -> x.lose(k), UNKNOWN);
        }
        refused("lose: it had nothing", RefusalsTest::standing, x -> x.lose(2), 0);
    }

    // ---- calls that name FAULTS

    private static void ofSquare() {
        check.about("square");
        failed("UNKNOWN", RefusalsTest::standing, x -> x.square(4, 3, -1, -1), UNKNOWN, 0);
        failed("UNKNOWN", RefusalsTest::standing, x -> x.square(-1, 0, 0, 2), UNKNOWN, 0);
        failed("OUTSIDE", RefusalsTest::standing, x -> x.square(2, 3, -1, -1), OUTSIDE, 0);
        failed("OUTSIDE", RefusalsTest::standing, x -> x.square(0, -1, 0, 2), OUTSIDE, 0);
        failed("CAST", RefusalsTest::standing, x -> x.square(0, 1, -1, -1), CAST, 2);
        failed("NULL", RefusalsTest::standing, x -> x.square(2, 1, -1, -1), NULL, 1);
        failed("SIZE", RefusalsTest::standing, x -> x.square(0, 0, -1, -1), SIZE, 4);
        failed("INDEX", RefusalsTest::standing, x -> x.square(0, 0, -1, 0), INDEX, 3);
        failed("INDEX", RefusalsTest::standing, x -> x.square(0, 0, 0, 3), INDEX, 3);
        failed("INDEX", RefusalsTest::standing, x -> x.square(0, 0, 3, 0), INDEX, 3);
        failed("FIRST FAULT", RefusalsTest::standing, x -> x.square(0, 0, 2, 0), -100, 0);
        failed("FIRST FAULT", RefusalsTest::standing, x -> x.square(0, 0, 1, 1), -100, 0);
        failed("FIRST FAULT", RefusalsTest::standing, x -> x.square(0, 0, 0, 1), -101, 0);
        failed("FIRST FAULT", RefusalsTest::standing, x -> x.square(0, 0, 0, 2), -102, 0);
        failed("FIRST FAULT", RefusalsTest::bare, x -> x.square(0, 0, 0, 2), -102, 0);
    }

    private static void ofSheets() {
        check.about("sheet");
        failed("UNKNOWN", RefusalsTest::standing, x -> x.sheet(4, 3, 101), UNKNOWN, 0);
        failed("UNKNOWN", RefusalsTest::standing, x -> x.sheet(-1, 0, -1), UNKNOWN, 0);
        int[] sheets = {0, 1, 2};
        for (int k : sheets) {
            failed("OUTSIDE", RefusalsTest::standing, x -> x.sheet(k, 3, -1), OUTSIDE, 0);
            failed("OUTSIDE", RefusalsTest::standing, x -> x.sheet(k, -1, 0), OUTSIDE, 0);
            failed("OUTSIDE", RefusalsTest::standing, x -> x.sheet(k, 0, 101), OUTSIDE, 0);
            failed("OUTSIDE", RefusalsTest::standing, x -> x.sheet(k, 0, MOST), OUTSIDE, 0);
            failed("SIZE", RefusalsTest::standing, x -> x.sheet(k, 1, -1), SIZE, 4);
            failed("SIZE", RefusalsTest::standing, x -> x.sheet(k, 1, LEAST), SIZE, 4);
        }
    }

    private static void ofCells() {
        check.about("put, cell");
        failed("put, UNKNOWN", RefusalsTest::standing, x -> x.put(4, -1, 0), UNKNOWN, 0);
        failed("put, UNKNOWN", RefusalsTest::standing, x -> x.put(-1, 0, 0), UNKNOWN, 0);
        failed("put, NULL", RefusalsTest::standing, x -> x.put(2, -1, 0), NULL, 1);
        failed("put, INDEX", RefusalsTest::standing, x -> x.put(0, -1, 0), INDEX, 3);
        failed("put, INDEX", RefusalsTest::standing, x -> x.put(0, 2, 0), INDEX, 3);
        failed("put, INDEX", RefusalsTest::standing, x -> x.put(1, 3, 0), INDEX, 3);
        failed("cell, UNKNOWN", RefusalsTest::standing, x -> x.cell(4, 0, 0), LOST, 0);
        failed("cell, UNKNOWN", RefusalsTest::standing, x -> x.cell(-1, 0, 0), LOST, 0);
        failed("cell, OUTSIDE", RefusalsTest::standing, x -> x.cell(2, -1, 3), LOST, 0);
        failed("cell, OUTSIDE", RefusalsTest::standing, x -> x.cell(0, 0, -1), LOST, 0);
        failed("cell, CAST", RefusalsTest::standing, x -> x.cell(0, -1, 1), LOST, 2);
        failed("cell, NULL", RefusalsTest::standing, x -> x.cell(2, -1, 1), LOST, 1);
        failed("cell, INDEX", RefusalsTest::standing, x -> x.cell(0, -1, 0), LOST, 3);
        failed("cell, INDEX", RefusalsTest::standing, x -> x.cell(0, 2, 0), LOST, 3);
        failed("cell, INDEX", RefusalsTest::standing, x -> x.cell(1, 3, 2), LOST, 3);
    }

    private static void ofCopy() {
        check.about("copy");
        failed("UNKNOWN", RefusalsTest::standing, x -> x.copy(4, 0, 2, 0, 0), UNKNOWN, 0);
        failed("UNKNOWN", RefusalsTest::standing, x -> x.copy(2, 0, 4, 0, 0), UNKNOWN, 0);
        failed("UNKNOWN", RefusalsTest::standing, x -> x.copy(-1, 0, 0, 0, 1), UNKNOWN, 0);
        failed("UNKNOWN", RefusalsTest::standing, x -> x.copy(0, 0, -1, 0, 1), UNKNOWN, 0);
        failed("NULL, the first", RefusalsTest::standing, x -> x.copy(2, -1, 0, 0, 0), NULL, 1);
        failed("NULL, the other", RefusalsTest::standing, x -> x.copy(0, 0, 2, -1, 0), NULL, 1);
        failed("CAST", RefusalsTest::standing, x -> x.copy(0, -1, 1, 0, 1), CAST, 2);
        failed("CAST", RefusalsTest::standing, x -> x.copy(1, 0, 0, 0, 1), CAST, 2);
        // The last of each three goes a cell too far; no cell of it may have come.
        failed("INDEX, i", RefusalsTest::standing, x -> x.copy(0, -1, 0, 0, 1), INDEX, 3);
        failed("INDEX, i", RefusalsTest::standing, x -> x.copy(0, 3, 0, 0, 0), INDEX, 3);
        failed("INDEX, i", RefusalsTest::standing, x -> x.copy(0, 1, 0, 0, 2), INDEX, 3);
        failed("INDEX, j", RefusalsTest::standing, x -> x.copy(1, 0, 1, -1, 1), INDEX, 3);
        failed("INDEX, j", RefusalsTest::standing, x -> x.copy(1, 0, 1, 4, 0), INDEX, 3);
        failed("INDEX, j", RefusalsTest::standing, x -> x.copy(1, 1, 1, 2, 2), INDEX, 3);
        failed("INDEX, n", RefusalsTest::standing, x -> x.copy(0, 0, 0, 0, -1), INDEX, 3);
        failed("INDEX, n", RefusalsTest::standing, x -> x.copy(0, 0, 0, 0, 3), INDEX, 3);
        failed("INDEX, n", RefusalsTest::standing, x -> x.copy(0, 1, 0, 0, MOST), INDEX, 3);
    }

    private static void ofKinds() {
        check.about("as");
        failed("UNKNOWN", RefusalsTest::standing, x -> x.as(-1, 3), UNKNOWN, 0);
        failed("UNKNOWN", RefusalsTest::standing, x -> x.as(THINGS, -1), UNKNOWN, 0);
        failed("UNKNOWN", RefusalsTest::bare, x -> x.as(0, 0), UNKNOWN, 0);
        failed("OUTSIDE", RefusalsTest::standing, x -> x.as(0, 3), OUTSIDE, 0);
        failed("OUTSIDE", RefusalsTest::standing, x -> x.as(2, -1), OUTSIDE, 0);
        failed("CAST", RefusalsTest::standing, x -> x.as(0, 1), CAST, 2);
        failed("CAST", RefusalsTest::standing, x -> x.as(1, 2), CAST, 2);
    }
}
