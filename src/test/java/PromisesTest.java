/** Each promise by itself: ordinary inputs, the edges that the document names, wrong inputs. */
public final class PromisesTest {
    private static final int UNKNOWN = -1, OUTSIDE = -2, STATE = -3, NONE = -9;
    private static final int NULL = -11, CAST = -12, INDEX = -13, SIZE = -14;
    private static final long LOST = Long.MIN_VALUE;
    private static final int LEAST = Integer.MIN_VALUE, MOST = Integer.MAX_VALUE;

    /** A bench, an urn (thing 0, 2 of 6 steps to cell 6), a tree (thing 1, 5 of 6 steps). */
    private static final String ALLEY = "q17;b.u3..t1.";
    /** Two benches in the corners, a lamp in the midst of them and one aside. */
    private static final String COURT = "q33;b..;.l2.;l9.b";
    private static final String FULL_SQUARE =
        "q67;bbbbbbb;bbbbb..;l1l2l3l4l5u6u7;u8t9t1....;.......;.......";

    private static final Check check = new Check();

    public static void main(String[] args) {
        newObject();
        squareReadsTexts();
        squareCountsBenchesAndThings();
        squareTakesCellsOfASheet();
        squareMakesAllAnew();
        cellHas();
        ofThing();
        tallNow();
        bench();
        year();
        cut();
        price();
        statue();
        seen();
        seenOnSlantedLines();
        whole();
        hidden();
        sight();
        best();
        block();
        cuts();
        complaints();
        moved();
        years();
        second();
        lit();
        sheet();
        lose();
        put();
        cell();
        copy();
        tell();
        tend();
        as();
        trace();
        fault();
        many();
        check.end();
    }

    private static void due(String call, long got, long want) {
        check.due(call, got, want);
    }

    private static void newObject() {
        check.about("promise 1");
        StatueSquare x = new StatueSquare();
        for (int what = 0; what < 5; what++) {
            due("many", x.many(what), 0);
        }
        for (int k = 0; k < 4; k++) {
            due("put", x.put(k, 0, 1), NULL);
            due("lose", x.lose(k), 0);
        }
        due("fault", new StatueSquare().fault(), 0);
        due("trace", x.trace(), 0);
        due("cellHas", x.cellHas(0), UNKNOWN);
        due("ofThing", x.ofThing(0, 0), UNKNOWN);
        due("bench", x.bench(0), UNKNOWN);
        due("year", x.year(0, false), STATE);
        due("year too late", x.year(31, false), OUTSIDE);
        due("cut", x.cut(0, true), UNKNOWN);
        due("price", x.price(0, 1), UNKNOWN);
        due("statue", x.statue(0, 0), UNKNOWN);
        due("seen", x.seen(0), UNKNOWN);
        due("whole", x.whole(), STATE);
        due("hidden", x.hidden(0), UNKNOWN);
        due("sight", x.sight(0), LOST);
        due("best", x.best(0, 0), STATE);
        due("best, wrong block", x.best(10, 0), OUTSIDE);
        due("block", x.block(0, 0), UNKNOWN);
        due("cuts", x.cuts(0), STATE);
        due("complaints", x.complaints(), STATE);
        due("moved", x.moved(0), STATE);
        due("moved, no bench", x.moved(1), OUTSIDE);
        due("years", x.years(), STATE);
        due("second", x.second(), LOST);
        due("lit", x.lit(0), STATE);
        due("tell", x.tell(0), UNKNOWN);
        due("tend", x.tend(0), UNKNOWN);
        due("as", x.as(0, 0), UNKNOWN);
    }

    private static void text(String text, int want) {
        StatueSquare x = new StatueSquare();
        due("square of '" + text + "'", Check.lay(x, text), want);
        due("fault after '" + text + "'", x.fault(), 0);
    }

    private static void squareReadsTexts() {
        check.about("promise 2");
        text("", -100);
        text("Q12;..", -100);
        text("b", -100);
        text("q", -101);
        text("q0", -101);
        text("q7", -101);
        text("q:2;..", -101);
        text("q6", -102);
        text("q11;.", -102);
        text("q18;........", -102);
        text("q1", -102);
        text("q12", -103);
        text("q12.", -103);
        text("q12;", -104);
        text("q12;;", -104);
        text("q12;.", -105);
        text("q12;..", 2);
        text("q12;...", -106);
        text("q12;..;", -106);
        text("q12;..q", -106);
        text("q22;..", -106);
        text("q22;...", -106);
        text("q22;..;..", 4);
        text("q22;.;...", -105);
        text("q12;l", -105);
        text("q12;l.", -105);
        text("q12;l0.", -105);
        text("q12;l:.", -105);
        text("q12;l1.", 2);
        text("q12;l9u1", 2);
        text("q12;.t9", 2);
        text("q12;bb", 2);
        text("q12;b1", -105);
        text("q12;.9", -105);
        text("q12;L1.", -104);
        text("q12;a1.", -104);
        text("q12;l11", -106);
        text("q12;l1t", -107);
        text("q67;" + ".......;".repeat(5) + ".......", 42);
        text("q67;" + ".......;".repeat(6), -151);
        text(FULL_SQUARE, 42);
    }

    private static void squareCountsBenchesAndThings() {
        text("q27;bbbbbbb;bbbbb..", 14);
        text("q27;bbbbbbb;bbbbbb.", -117);
        text("q27;bbbbbbb;bbbbb.b", -118);
        text("q27;l1l1l1l1l1u1u1;u1t1t1....", 14);
        text("q27;l1l1l1l1l1u1u1;u1t1t1l1...", -125);
        text("q27;l1l1l1l1l1u1u1;u1t1t1...u", -128);
        text("q27;l1l1l1l1l1u1u1;u1t1t1...t9", -128);
    }

    private static void squareTakesCellsOfASheet() {
        StatueSquare x = new StatueSquare();
        due("no sheet", x.square(-1, 9, 0, 0), UNKNOWN);
        due("no sheet", x.square(4, 0, 0, 0), UNKNOWN);
        due("no lane", x.square(0, -1, 0, -1), OUTSIDE);
        due("no lane", x.square(0, 3, 0, 0), OUTSIDE);
        due("nothing", x.square(0, 0, -1, -1), NULL);
        due("fault", x.fault(), 1);
        for (int lane = 0; lane < 3; lane++) {
            Check.write(x, lane, lane, "..q12;b..");
            due("other lane", x.square(lane, (lane + 1) % 3, -1, -1), CAST);
            due("fault", x.fault(), 2);
            due("size", x.square(lane, lane, -1, -1), SIZE);
            due("size", x.square(lane, lane, 0, LEAST), SIZE);
            due("fault", x.fault(), 4);
            due("before", x.square(lane, lane, -1, 1), INDEX);
            due("before, none", x.square(lane, lane, -1, 0), INDEX);
            due("beyond", x.square(lane, lane, 3, 7), INDEX);
            due("beyond, none", x.square(lane, lane, 10, 0), INDEX);
            due("beyond, wraps", x.square(lane, lane, 2, MOST), INDEX);
            due("beyond, wraps", x.square(lane, lane, MOST, MOST), INDEX);
            due("before", x.square(lane, lane, LEAST, 0), INDEX);
            due("fault", x.fault(), 3);
            due("at the end, none", x.square(lane, lane, 9, 0), -100);
            due("fault", x.fault(), 0);
            due("whole sheet", x.square(lane, lane, 0, 9), -100);
            due("too few", x.square(lane, lane, 2, 5), -105);
            due("many after faults", x.many(0), lane == 0 ? 0 : 2);
            due("just it", x.square(lane, lane, 2, 6), 2);
            due("too many", x.square(lane, lane, 2, 7), -106);
            due("its bench", x.bench(0), 0);
        }
        x.put(0, 2, 'q' + 256);
        due("cut to a byte", x.square(0, 0, 2, 6), 2);
        x.put(1, 2, 'q' + 65536);
        due("cut to a short", x.square(1, 1, 2, 6), 2);
        x.put(2, 2, 'q' + 256);
        due("no q", x.square(2, 2, 2, 6), -100);
        x.put(2, 2, 'q');
        x.put(2, 3, LEAST);
        due("no digit", x.square(2, 2, 2, 6), -101);
        x.put(2, 3, -1);
        due("no digit", x.square(2, 2, 2, 6), -101);
    }

    private static void squareMakesAllAnew() {
        StatueSquare x = Check.laid(ALLEY);
        x.year(9, true);
        x.cut(1, true);
        x.price(1, 7);
        x.statue(6, 4);
        x.tend(1);
        due("faulty", Check.lay(x, "q12;b"), -105);
        due("year stays", x.many(4), 9);
        due("cut stays", x.ofThing(1, 4), 1);
        due("price stays", x.ofThing(1, 5), 7);
        due("statue stays", x.statue(6, 4), 6);
        due("things stay", x.many(3), 2);
        due("anew", Check.lay(x, ALLEY), 7);
        due("year", x.many(4), 0);
        due("no winter", x.ofThing(0, 3), 4);
        due("not cut", x.ofThing(1, 4), 0);
        due("price", x.ofThing(1, 5), 1);
        due("no statue", x.whole(), STATE);
        due("trace stays", x.trace(), 5);
        due("a lesser one", Check.lay(x, "q12;.."), 2);
        due("no benches", x.bench(0), UNKNOWN);
        due("no things", x.ofThing(0, 0), UNKNOWN);
        due("few cells", x.cellHas(2), UNKNOWN);
        due("as many benches and things as may be", Check.lay(x, FULL_SQUARE), 42);
        due("counted anew", Check.lay(x, FULL_SQUARE), 42);
    }

    private static void cellHas() {
        check.about("promise 3");
        StatueSquare x = Check.laid("q23;b.l1;t2bu3");
        int[] want = {1, 0, 10, 11, 1, 12};
        for (int c = 0; c < 6; c++) {
            due("cellHas " + c, x.cellHas(c), want[c]);
        }
        due("beyond", x.cellHas(6), UNKNOWN);
        due("before", x.cellHas(-1), UNKNOWN);
        due("far", x.cellHas(LEAST), UNKNOWN);
        due("far", x.cellHas(MOST), UNKNOWN);
        x.cut(0, true);
        x.statue(1, 0);
        due("by the text, cut", x.cellHas(2), 10);
        due("by the text, statue", x.cellHas(1), 0);
        due("last of the tenth", Check.laid(FULL_SQUARE).cellHas(23), 19);
    }

    private static void ofThing() {
        check.about("promise 4");
        StatueSquare x = Check.laid("q23;b.l1;t2bu3");
        int[][] want = {{0, 2, 1, 1, 0, 1}, {2, 3, 2, 3, 0, 1}, {1, 5, 3, 4, 0, 1}};
        for (int t = 0; t < 3; t++) {
            for (int what = 0; what < 6; what++) {
                due("ofThing " + t + " " + what, x.ofThing(t, what), want[t][what]);
            }
            due("no what", x.ofThing(t, 6), OUTSIDE);
            due("no what", x.ofThing(t, -1), OUTSIDE);
        }
        due("no thing", x.ofThing(3, 0), UNKNOWN);
        due("no thing, no what", x.ofThing(-1, 6), UNKNOWN);
        x.cut(1, true);
        x.price(1, 8);
        due("cut", x.ofThing(1, 4), 1);
        due("how tall it is by its kind", x.ofThing(1, 3), 3);
        due("price", x.ofThing(1, 5), 8);
        due("other's cut", x.ofThing(2, 4), 0);
        due("other's price", x.ofThing(2, 5), 1);
    }

    private static void tallNow() {
        StatueSquare x = Check.laid("q13;l5u5t5");
        int[][] want = {
            {0, 5, 6, 6, 5, 5, 2}, {2, 5, 6, 6, 5, 5, 2}, {3, 5, 6, 7, 5, 5, 3},
            {5, 5, 6, 7, 5, 5, 3}, {6, 5, 6, 8, 5, 5, 3}, {29, 5, 6, 15, 5, 5, 7}, {30, 5, 6, 16, 5, 5, 7}};
        for (int[] row : want) {
            for (int t = 0; t < 3; t++) {
                x.year(row[0], false);
                due("tall " + t + " in " + row[0], x.ofThing(t, 3), row[1 + t]);
                x.year(row[0], true);
                due("tall " + t + " in winter " + row[0], x.ofThing(t, 3), row[4 + t]);
                due("at first", x.ofThing(t, 2), 5);
            }
        }
        x = Check.laid("q12;.t1");
        x.year(0, true);
        due("half of one", x.ofThing(0, 3), 0);
    }

    private static void bench() {
        check.about("promise 5");
        StatueSquare x = Check.laid("q23;.b.;b.b");
        due("first", x.bench(0), 1);
        due("second", x.bench(1), 3);
        due("third", x.bench(2), 5);
        due("beyond", x.bench(3), UNKNOWN);
        due("before", x.bench(-1), UNKNOWN);
        due("far", x.bench(MOST), UNKNOWN);
        due("twelfth", Check.laid(FULL_SQUARE).bench(11), 11);
    }

    private static void year() {
        check.about("promise 6");
        StatueSquare x = Check.laid("q12;.t9");
        due("first", x.year(30, true), 0);
        due("again", x.year(0, false), 30);
        due("many", x.many(4), 0);
        due("tall", x.ofThing(0, 3), 10);
        due("too late", x.year(31, true), OUTSIDE);
        due("too early", x.year(-1, true), OUTSIDE);
        due("nothing changed", x.ofThing(0, 3), 10);
        due("same year, winter", x.year(0, true), 0);
        due("half", x.ofThing(0, 3), 4);
    }

    private static void cut() {
        check.about("promise 7");
        StatueSquare x = Check.laid(ALLEY);
        due("not cut", x.cut(1, false), 0);
        due("cut", x.cut(1, true), 1);
        due("was cut", x.cut(1, true), 0);
        due("just it", x.ofThing(0, 4), 0);
        due("grows", x.cut(1, false), 1);
        due("grown", x.ofThing(1, 4), 0);
        due("no thing", x.cut(2, true), UNKNOWN);
        due("no thing", x.cut(-1, false), UNKNOWN);
        x.statue(6, 0);
        due("in the way", x.hidden(0), 3);
        x.cut(0, true);
        due("is not there", x.hidden(0), 2);
    }

    private static void price() {
        check.about("promise 8");
        StatueSquare x = Check.laid(ALLEY);
        due("first", x.price(0, 9), 1);
        due("second", x.price(0, 1), 9);
        due("too little", x.price(0, 0), OUTSIDE);
        due("too much", x.price(0, 10), OUTSIDE);
        due("no thing", x.price(2, 10), UNKNOWN);
        due("no thing", x.price(-1, 1), UNKNOWN);
        due("as it was", x.ofThing(0, 5), 1);
    }

    private static void statue() {
        check.about("promise 9");
        StatueSquare x = Check.laid(ALLEY);
        due("no cell", x.statue(7, 10), UNKNOWN);
        due("no cell", x.statue(-1, 0), UNKNOWN);
        due("no block", x.statue(0, 10), OUTSIDE);
        due("no block", x.statue(6, -1), OUTSIDE);
        due("a bench", x.statue(0, 0), STATE);
        due("a thing", x.statue(2, 9), STATE);
        due("still none", x.seen(0), STATE);
        due("first", x.statue(6, 9), NONE);
        due("refused", x.statue(5, 0), STATE);
        due("same cell, other block", x.statue(6, 0), 6);
        due("block 0", x.seen(0), 0);
        due("moves", x.statue(1, 0), 6);
        x.cut(0, true);
        due("a cut thing may grow again", x.statue(2, 0), STATE);
        due("moves back", x.statue(6, 0), 1);
    }

    private static void seen() {
        check.about("promise 10");
        StatueSquare x = Check.laid(ALLEY);
        due("no bench", x.seen(1), UNKNOWN);
        due("no statue", x.seen(0), STATE);
        x.statue(6, 0);
        due("no bench", x.seen(-1), UNKNOWN);
        // The urn is 4 tall at 2 of 6: the lines are 5/3, 7/3, 3, 11/3 high.
        due("urn of 4", x.seen(0), 0);
        // In winter 3 tall: just as tall as the line to the breast.
        x.year(0, true);
        due("urn of 3", x.seen(0), 8);
        x.year(0, false);
        x.cut(0, true);
        // The tree is 2 tall at 5 of 6: the lines are 7/6, 17/6, ... high.
        due("tree of 2", x.seen(0), 14);
        x.year(3, false);
        due("tree of 3", x.seen(0), 12);
        x.cut(1, true);
        due("nothing between", x.seen(0), 15);
        x.statue(1, 0);
        x.cut(0, false);
        due("nothing behind matters", x.seen(0), 15);
        x.statue(3, 0);
        due("urn of 4 at 2 of 3", x.seen(0), 8);
        x.statue(3, 2);
        due("block 2: just 4 is hidden", x.seen(0), 12);
        x.statue(3, 3);
        due("block 3: 14/3 is seen", x.seen(0), 14);
    }

    private static void seenOnSlantedLines() {
        // From 0 to 24 (4 rows, 4 columns) by 6, 12, 18; from 0 to 14 (2 rows, 4 columns) by 7 alone.
        StatueSquare x = Check.laid("q55;b....;.l9l9..;....l9;...l9.;.....");
        x.statue(24, 0);
        due("things 0 and 3", x.hidden(0), 9);
        x.statue(23, 0);
        due("4 rows, 3 columns: no midst", x.seen(0), 15);
        x = Check.laid("q35;b....;.l9l9..;l9l9l9l9.");
        x.statue(14, 0);
        due("by 7 alone", x.hidden(0), 2);
        x = Check.laid("q53;..b;.l9.;..l9;...;...");
        x.statue(12, 9);
        due("2 columns back, 4 rows down, by 7", x.hidden(0), 0);
        x = Check.laid("q23;bl9l9;...");
        x.statue(5, 0);
        due("1 row, 2 columns: no midst", x.hidden(0), 0);
        x = Check.laid("q43;...;...;...;bl9.");
        x.statue(11, 0);
        due("in the last row", x.hidden(0), 1);
        x = Check.laid("q53;..b;...;.l9.;...;...");
        x.statue(12, 9);
        due("line of 6 at 1 of 2", x.hidden(0), 1);
        x = Check.laid("q33;...;.l2.;..b");
        x.statue(0, 0);
        due("from below, to the left", x.seen(0), 14);
        x.statue(2, 0);
        due("upwards", x.seen(0), 15);
        x = Check.laid("q13;bb.");
        x.statue(2, 0);
        due("benches are not in the way", x.whole(), 3);
    }

    private static void whole() {
        check.about("promise 11");
        StatueSquare x = Check.laid("q15;b.l1.b");
        due("no statue", x.whole(), STATE);
        x.statue(1, 0);
        // From bench 1 the foot's line is 4/3 high at cell 2 (2 of 3): a lamp of 1 hides nothing.
        due("both", x.whole(), 3);
        x = Check.laid("q15;b.l2.b");
        x.statue(1, 0);
        due("the first", x.whole(), 1);
        x.statue(3, 0);
        due("the second", x.whole(), 2);
        x.statue(3, 1);
        due("just as tall", x.whole(), 2);
        x.statue(3, 2);
        due("from a block", x.whole(), 3);
        x = Check.laid("q12;..");
        x.statue(0, 0);
        due("no benches", x.whole(), 0);
        x = Check.laid(FULL_SQUARE);
        x.statue(12, 0);
        due("twelve", x.whole(), 4095);
    }

    private static void hidden() {
        check.about("promise 12");
        StatueSquare x = Check.laid(ALLEY);
        due("no bench", x.hidden(1), UNKNOWN);
        due("no bench", x.hidden(-1), UNKNOWN);
        due("no statue", x.hidden(0), STATE);
        x.statue(6, 0);
        due("both", x.hidden(0), 3);
        x.year(0, true);
        due("the urn", x.hidden(0), 1);
        x.cut(0, true);
        due("none", x.hidden(0), 0);
        x.year(9, true);
        due("the tree", x.hidden(0), 2);
        x.statue(4, 0);
        due("one is cut, one behind", x.hidden(0), 0);
        x = Check.laid(ALLEY);
        x.statue(6, 2);
        due("from a block of 2, the urn", x.hidden(0), 1);
    }

    private static void sight() {
        check.about("promise 13");
        StatueSquare x = Check.laid("q15;b.l2.b");
        due("no statue", x.sight(0), LOST);
        x.statue(1, 0);
        due("no such", x.sight(2), LOST);
        due("no such", x.sight(-1), LOST);
        // Bench 0 sees 4 PARTS; bench 1 all but the foot.
        due("upper", x.sight(0), 7);
        due("lower", x.sight(1), 8);
        x.cut(0, true);
        due("all, upper", x.sight(0), 1);
        due("all, lower", x.sight(1), 1);
        x = Check.laid(ALLEY);
        x.statue(6, 0);
        due("none, upper", x.sight(0), 0);
        due("none, lower", x.sight(1), 1);
        x.year(3, false);
        x.cut(0, true);
        due("half, upper", x.sight(0), 1);
        due("half, lower", x.sight(1), 2);
        x = Check.laid("q12;..");
        x.statue(0, 0);
        due("no benches, upper", x.sight(0), 0);
        due("no benches, lower", x.sight(1), 1);
    }

    private static void best() {
        check.about("promise 14");
        StatueSquare x = Check.laid("q15;l9b.l9b");
        due("cell", x.best(0, 0), 2);
        due("only the near bench", x.best(0, 1), 1);
        x.cut(1, true);
        due("both", x.best(0, 1), 2);
        x = Check.laid("q17;.l2b...b");
        due("of several the least", x.best(0, 0), 3);
        due("both", x.best(0, 1), 2);
        due("cell 0 by a block of 3: 3 at 4 of 6 is not 2", x.best(3, 0), 0);
        x.statue(3, 0);
        due("the statue's, too", x.best(0, 0), 3);
        due("low block", x.best(-1, 0), OUTSIDE);
        due("high block", x.best(10, 0), OUTSIDE);
        due("what", x.best(0, 2), OUTSIDE);
        due("what", x.best(9, -1), OUTSIDE);
        x = Check.laid("q12;bl1");
        due("none", x.best(9, 0), NONE);
        due("none", x.best(9, 1), 0);
        x.cut(0, true);
        due("where it is cut, none", x.best(9, 0), NONE);
        x = Check.laid("q13;l1..");
        due("no benches", x.best(0, 0), 1);
        due("no benches", x.best(0, 1), 0);
    }

    private static void block() {
        check.about("promise 15");
        StatueSquare x = Check.laid(ALLEY);
        // At 2 of 6 the foot's line must be above 4: 2 and a third of (block - 1).
        due("least", x.block(6, 0), 8);
        due("count", x.block(6, 1), 1);
        due("near", x.block(1, 0), 0);
        x.cut(0, true);
        due("the tree of 2", x.block(6, 0), 2);
        x.year(30, false);
        due("none helps: least", x.block(6, 0), 0);
        due("none helps: count", x.block(6, 1), 0);
        due("no cell", x.block(7, 2), UNKNOWN);
        due("no cell", x.block(-1, 0), UNKNOWN);
        due("what", x.block(0, 2), OUTSIDE);
        due("what", x.block(1, -1), OUTSIDE);
        due("a bench", x.block(0, 0), STATE);
        due("a thing", x.block(5, 1), STATE);
        due("a cut thing", x.block(2, 1), STATE);
        x.statue(1, 7);
        due("the statue's cell", x.block(1, 0), 0);
        due("the block stays", x.statue(1, 7), 1);
        x = Check.laid("q16;b.l5...");
        // At 2 of 5 the foot's line is 4.8 high from a block of 8, 5.2 from one of 9.
        due("the highest", x.block(5, 0), 9);
    }

    private static void cuts() {
        check.about("promise 16");
        StatueSquare x = Check.laid("q33;b.b;l9l9l9;...");
        due("what", x.cuts(2), OUTSIDE);
        due("what", x.cuts(-1), OUTSIDE);
        due("no statue", x.cuts(0), STATE);
        x.statue(6, 0);
        x.price(0, 4);
        x.price(1, 5);
        x.price(2, 9);
        due("set", x.cuts(0), 3);
        due("cost", x.cuts(1), 9);
        x.cut(1, true);
        due("what is cut costs nothing", x.cuts(0), 1);
        due("cost", x.cuts(1), 4);
        x.cut(0, true);
        due("none", x.cuts(0), 0);
        due("none", x.cuts(1), 0);
        due("nothing was cut by it", x.ofThing(2, 4), 0);
        x = Check.laid("q13;.l9.");
        x.statue(2, 0);
        due("no benches", x.cuts(0), 0);
    }

    private static void complaints() {
        check.about("promise 17");
        StatueSquare x = Check.laid(COURT);
        due("no statue", x.complaints(), STATE);
        x.statue(1, 0);
        due("none", x.complaints(), 0);
        x = Check.laid("q33;b..;.l2.;..b");
        x.statue(8 - 2, 0);
        due("aside", x.complaints(), 0);
        x = Check.laid("q15;b.l2.b");
        x.statue(1, 0);
        due("the second", x.complaints(), 2);
        x.statue(3, 0);
        due("the first", x.complaints(), 1);
        x = Check.laid("q12;..");
        x.statue(0, 0);
        due("no benches", x.complaints(), 0);
        x = Check.laid("q14;b.t1.");
        x.statue(3, 0);
        x.year(6, true);
        due("a tree of 1", x.complaints(), 0);
        x.year(9, true);
        due("a tree of 2", x.complaints(), 1);
    }

    private static void moved() {
        check.about("promise 18");
        StatueSquare x = Check.laid("q33;b.b;l9l9l9;...");
        due("a bit of no bench", x.moved(4), OUTSIDE);
        due("no statue", x.moved(3), STATE);
        x.statue(6, 0);
        due("a bit of no bench", x.moved(7), OUTSIDE);
        due("below 0", x.moved(-1), OUTSIDE);
        due("below 0", x.moved(LEAST), OUTSIDE);
        due("lamp 0 gone: bench 1 complains", x.moved(2), 1);
        due("lamp 1 gone: bench 0 complains", x.moved(1), 2);
        due("lamp 2 gone: both complain", x.moved(3), 4);
        due("no lamp alone", x.moved(0), 0);
        x.cut(2, true);
        due("what is cut is not there", x.moved(3), 0);
        x = Check.laid(ALLEY);
        x.statue(6, 0);
        due("two in the way", x.moved(1), 3);
        due("two in the way", x.moved(0), 0);
    }

    private static void years() {
        check.about("promise 19");
        StatueSquare x = Check.laid(ALLEY);
        due("no statue", x.years(), STATE);
        x.statue(6, 0);
        due("now", x.years(), 0);
        x.cut(0, true);
        x.year(0, true);
        // (1 + 9 / 3) / 2 is 2, above 7/6.
        due("in winter", x.years(), 9);
        x.year(7, true);
        due("from here on", x.years(), 9);
        x.year(12, true);
        due("this one", x.years(), 12);
        due("year stays", x.many(4), 12);
        x.year(0, false);
        x.statue(6, 9);
        // At 5 of 6 the foot's line is 2 and 40/6 high: 9 tall in 21, 2 and 7.
        due("from a block", x.years(), 21);
        x.year(30, false);
        due("the last one", x.years(), 30);
        x.cut(1, true);
        due("none", x.years(), NONE);
        x = Check.laid("q12;..");
        x.statue(0, 0);
        due("no benches", x.years(), NONE);
        x = Check.laid("q14;b.t1.");
        x.statue(3, 0);
        x.year(0, true);
        due("a tree of 2", x.years(), 9);
    }

    private static void second() {
        check.about("promise 20");
        StatueSquare x = Check.laid("q16;.l9b.l9.");
        due("no statue", x.second(), LOST);
        x.statue(3, 0);
        due("behind the lamps", x.second(), 1L << 0 | 1L << 5);
        x.statue(0, 0);
        due("seen from none: all but its own", x.second(), 1L << 3 | 1L << 5);
        x.cut(0, true);
        due("seen: not cell 3", x.second(), 1L << 5);
        x = Check.laid("q14;b.l3.");
        x.statue(1, 0);
        // At 2 of 3 the lines to cell 3 are 4/3, 8/3, 4, 16/3 high.
        due("some parts are seen", x.second(), 0);
        x = Check.laid("q14;b.l5.");
        x.statue(1, 0);
        due("the head is seen: 16/3", x.second(), 0);
        x = Check.laid("q14;b.l6.");
        x.statue(1, 0);
        due("no part is seen", x.second(), 1L << 3);
        x.statue(1, 9);
        due("as high a block", x.second(), 0);
        x = Check.laid("q67;" + ".......;".repeat(5) + ".......");
        x.statue(0, 0);
        due("42 cells", x.second(), (1L << 42) - 2);
    }

    private static void lit() {
        check.about("promise 21");
        StatueSquare x = Check.laid("q17;.l1l5l6.l7.");
        due("what", x.lit(2), OUTSIDE);
        due("what", x.lit(-1), OUTSIDE);
        due("no statue", x.lit(0), STATE);
        x.statue(0, 0);
        due("l7 is 5 away", x.lit(1), 7);
        due("l5 and l6 light as much", x.lit(0), 2);
        x.cut(1, true);
        due("l6", x.lit(0), 4);
        x.cut(2, true);
        due("l1 is just as tall", x.lit(0), 1);
        due("the foot", x.lit(1), 1);
        x.statue(0, 1);
        due("none", x.lit(0), 0);
        due("none", x.lit(1), 0);
        x.statue(4, 0);
        due("l7", x.lit(0), 8);
        due("all", x.lit(1), 15);
        x = Check.laid("q17;u9l1..t9..");
        x.statue(2, 0);
        due("urns and trees are not of kind 0", x.lit(1), 1);
        due("the lamp", x.lit(0), 2);
        x = Check.laid("q57;l7......;.......;.......;.......;.......");
        x.statue(3 * 7 + 3, 0);
        due("3 rows, 3 columns", x.lit(1), 15);
        x.statue(4 * 7 + 3, 0);
        due("4 rows", x.lit(1), 0);
        x.statue(3 * 7 + 4, 0);
        due("4 columns", x.lit(1), 0);
        x = Check.laid("q52;..;..;..;..;l7.");
        x.statue(9, 0);
        due("in the last row", x.lit(1), 15);
        Check.lay(x, "q13;l9l9.");
        Check.lay(x, "q13;l1..");
        x.statue(2, 0);
        due("by the new lamp alone", x.lit(1), 1);
    }

    private static void sheet() {
        check.about("promise 22");
        StatueSquare x = new StatueSquare();
        due("no sheet", x.sheet(4, 3, -1), UNKNOWN);
        due("no sheet", x.sheet(-1, 0, 0), UNKNOWN);
        due("no lane", x.sheet(0, 3, -1), OUTSIDE);
        due("no lane", x.sheet(0, -1, 0), OUTSIDE);
        due("too long", x.sheet(0, 0, 101), OUTSIDE);
        due("too long", x.sheet(0, 0, MOST), OUTSIDE);
        due("size", x.sheet(0, 0, -1), SIZE);
        due("size", x.sheet(0, 2, LEAST), SIZE);
        due("fault", x.fault(), 4);
        due("still nothing", x.lose(0), 0);
        due("longest", x.sheet(0, 2, 100), 1);
        due("fault", x.fault(), 0);
        due("last cell", x.put(0, 99, 5), 1);
        due("size changes nothing", x.sheet(0, 0, -1), SIZE);
        due("last cell", x.cell(0, 99, 2), 5);
        due("new row", x.sheet(0, 2, 100), 1);
        due("is 0", x.cell(0, 99, 2), 0);
        x.put(0, 1, 7);
        due("shorter", x.sheet(0, 0, 1), 1);
        x.put(0, 0, 7);
        due("longer again", x.sheet(0, 0, 2), 1);
        due("is 0", x.cell(0, 0, 0), 0);
        due("is 0", x.cell(0, 1, 0), 0);
        due("empty", x.sheet(0, 0, 0), 1);
        due("has a row of none", x.put(0, 0, 0), INDEX);
        due("it had a row", x.lose(0), 1);
        x.sheet(1, 0, 1);
        x.sheet(2, 0, 1);
        x.put(1, 0, 3);
        due("each its own", x.cell(2, 0, 0), 0);
    }

    private static void lose() {
        check.about("promise 23");
        StatueSquare x = new StatueSquare();
        due("nothing", x.lose(3), 0);
        x.sheet(3, 1, 2);
        due("had", x.lose(3), 1);
        due("nothing", x.lose(3), 0);
        due("put", x.put(3, 0, 1), NULL);
        due("no sheet", x.lose(4), UNKNOWN);
        due("no sheet", x.lose(-1), UNKNOWN);
        x.put(3, 0, 1);
        x.lose(3);
        due("names no fault", x.fault(), 1);
        StatueSquare y = Check.laid(ALLEY);
        y.lose(3);
        due("the square stays", y.many(0), 7);
    }

    private static void put() {
        check.about("promise 24");
        StatueSquare x = new StatueSquare();
        due("no sheet", x.put(4, 0, 0), UNKNOWN);
        due("no sheet", x.put(-1, 0, 0), UNKNOWN);
        due("null", x.put(0, -1, 0), NULL);
        due("fault", x.fault(), 1);
        long[][] want = {{-1, -128, 44, 0, -1}, {255, 128, 300, 0, -1}, {255, 128, 300, LEAST, MOST}};
        int[] puts = {255, 128, 300, LEAST, MOST};
        for (int lane = 0; lane < 3; lane++) {
            x.sheet(lane, lane, 5);
            for (int i = 0; i < 5; i++) {
                due("put", x.put(lane, i, puts[i]), 1);
                due("cut to lane " + lane, x.cell(lane, i, lane), want[lane][i]);
            }
            due("fault", x.fault(), 0);
            due("beyond", x.put(lane, 5, 1), INDEX);
            due("before", x.put(lane, -1, 1), INDEX);
            due("far", x.put(lane, LEAST, 1), INDEX);
            due("far", x.put(lane, MOST, 1), INDEX);
            due("fault", x.fault(), 3);
        }
    }

    private static void cell() {
        check.about("promise 25");
        StatueSquare x = new StatueSquare();
        due("no sheet", x.cell(4, 0, 0), LOST);
        due("fault", x.fault(), 0);
        due("null", x.cell(0, -1, 0), LOST);
        due("fault", x.fault(), 1);
        due("no sheet", x.cell(-1, 0, 0), LOST);
        due("fault", x.fault(), 0);
        x.sheet(0, 1, 2);
        x.put(0, 1, -5);
        due("cell", x.cell(0, 1, 1), -5);
        due("fault", x.fault(), 0);
        due("cast ahead of index", x.cell(0, 9, 0), LOST);
        due("fault", x.fault(), 2);
        due("no lane", x.cell(0, 9, 3), LOST);
        due("fault", x.fault(), 0);
        due("index", x.cell(0, 2, 1), LOST);
        due("fault", x.fault(), 3);
        due("no lane", x.cell(0, 0, -1), LOST);
        due("fault", x.fault(), 0);
        due("index", x.cell(0, -1, 1), LOST);
        due("fault", x.fault(), 3);
    }

    private static void copy() {
        check.about("promise 26");
        StatueSquare x = new StatueSquare();
        due("no sheet", x.copy(4, 0, 0, 0, 0), UNKNOWN);
        due("no other", x.copy(0, 0, 4, 0, 0), UNKNOWN);
        due("no other", x.copy(0, 0, -1, 0, 0), UNKNOWN);
        due("null", x.copy(0, -1, 1, -1, -1), NULL);
        x.sheet(0, 0, 5);
        due("the other is null", x.copy(0, -1, 1, 0, 0), NULL);
        due("the first is null", x.copy(1, -1, 0, 0, 0), NULL);
        due("fault", x.fault(), 1);
        x.sheet(1, 1, 5);
        due("unlike", x.copy(0, -1, 1, 0, -1), CAST);
        due("unlike, none", x.copy(1, 0, 0, 0, 0), CAST);
        due("fault", x.fault(), 2);
        x.sheet(1, 0, 3);
        for (int i = 0; i < 5; i++) {
            x.put(0, i, i + 1);
        }
        int[][] beyond = {{-1, 0, 0}, {0, -1, 0}, {0, 0, -1}, {6, 0, 0}, {0, 4, 0}, {0, 0, 4}, {4, 0, 2},
            {0, 2, 2}, {MOST, 0, 1}, {1, 0, MOST}, {0, 1, MOST}, {LEAST, 0, 1}, {0, LEAST, 1}, {0, 0, LEAST}};
        for (int[] b : beyond) {
            due("index " + b[0] + " " + b[1] + " " + b[2], x.copy(0, b[0], 1, b[1], b[2]), INDEX);
            due("fault", x.fault(), 3);
        }
        due("none, at the ends", x.copy(0, 5, 1, 3, 0), 0);
        due("fault", x.fault(), 0);
        due("three", x.copy(0, 2, 1, 0, 3), 3);
        cells(x, 1, 3, 4, 5);
        due("same, up", x.copy(0, 0, 0, 1, 4), 4);
        cells(x, 0, 1, 1, 2, 3, 4);
        due("same, down", x.copy(0, 2, 0, 1, 3), 3);
        cells(x, 0, 1, 2, 3, 4, 4);
    }

    private static void cells(StatueSquare x, int sheet, int... want) {
        for (int i = 0; i < want.length; i++) {
            due("cell " + i, x.cell(sheet, i, 0), want[i]);
        }
    }

    private static void tell() {
        check.about("promise 27");
        StatueSquare x = Check.laid("q13;l5u6t7");
        due("lamp", x.tell(0), 5);
        due("bodies 1", x.trace(), 1);
        due("urn", x.tell(1), 106);
        due("bodies 2 1", x.trace(), (1 * 31 + 2) * 31 + 1);
        x = Check.laid("q13;l5u6t7");
        due("tree", x.tell(2), 114);
        due("bodies 3 2 1 1", x.trace(), ((3 * 31 + 2) * 31 + 1) * 31 + 1);
        due("no thing", x.tell(3), UNKNOWN);
        due("no thing", x.tell(-1), UNKNOWN);
        due("no body began", x.trace(), ((3 * 31 + 2) * 31 + 1) * 31 + 1);
        x.year(30, false);
        x.cut(2, true);
        due("at first, cut or not", x.tell(2), 114);
    }

    private static void tend() {
        check.about("promise 28");
        StatueSquare x = Check.laid("q14;l5u6t7u1");
        due("lamp 0", x.tend(0), 0);
        due("body 4", x.trace(), 4);
        due("urn 1", x.tend(1), 1);
        due("body 4", x.trace(), 4 * 31 + 4);
        due("tree", x.tend(2), 40);
        due("body 5", x.trace(), (4 * 31 + 4) * 31 + 5);
        due("urn 3", x.tend(3), 3);
        due("no thing", x.tend(4), UNKNOWN);
        due("no thing", x.tend(-1), UNKNOWN);
        due("no body began", x.trace(), ((4 * 31 + 4) * 31 + 5) * 31 + 4);
    }

    private static void as() {
        check.about("promise 29");
        StatueSquare x = Check.laid("q13;l5u6t7");
        for (int t = 0; t < 3; t++) {
            for (int kind = 0; kind < 3; kind++) {
                due("thing " + t + " as " + kind, x.as(t, kind), kind <= t ? 1 : CAST);
                due("fault", x.fault(), kind <= t ? 0 : 2);
            }
            due("no kind", x.as(t, 3), OUTSIDE);
            due("no kind", x.as(t, -1), OUTSIDE);
            due("fault", x.fault(), 0);
        }
        due("no thing", x.as(3, 3), UNKNOWN);
        due("no thing", x.as(-1, 0), UNKNOWN);
    }

    private static void trace() {
        check.about("promise 30");
        StatueSquare x = Check.laid("q13;l5u6t7");
        int want = 0;
        for (int i = 0; i < 40; i++) {
            due("trace", x.trace(), want);
            x.tend(2);
            want = 31 * want + 5;
        }
        due("it wraps", x.trace(), want);
        Check.lay(x, "q12;..");
        due("a new square leaves it", x.trace(), want);
    }

    private static void fault() {
        check.about("promise 31");
        StatueSquare x = Check.laid(ALLEY);
        due("none", x.fault(), 0);
        x.as(0, 2);
        due("cast", x.fault(), 2);
        due("asking leaves it", x.fault(), 2);
        x.seen(9);
        x.cut(9, true);
        x.tell(0);
        x.lose(0);
        x.many(9);
        x.best(0, 0);
        due("calls that name none leave it", x.fault(), 2);
        x.as(0, 1);
        due("came to none", x.fault(), 0);
        x.put(0, 0, 0);
        due("null", x.fault(), 1);
        x.put(9, 0, 0);
        due("refused", x.fault(), 0);
        x.as(0, 2);
        x.sheet(0, 0, 1);
        due("sheet came to none", x.fault(), 0);
        x.as(0, 2);
        x.sheet(0, 0, 101);
        due("sheet was refused", x.fault(), 0);
        x.as(0, 2);
        x.cell(0, 0, 0);
        due("cell came to none", x.fault(), 0);
        x.as(0, 2);
        x.copy(0, 0, 0, 0, 1);
        due("copy came to none", x.fault(), 0);
        x.as(0, 2);
        x.copy(0, 0, 9, 0, 1);
        due("copy was refused", x.fault(), 0);
        x.as(0, 2);
        x.square(0, 0, 0, 1);
        due("a faulty text is no fault", x.fault(), 0);
        x.as(0, 2);
        x.square(9, 0, 0, 1);
        due("square was refused", x.fault(), 0);
    }

    private static void many() {
        check.about("promise 32");
        StatueSquare x = Check.laid("q23;b.l1;t2bu3");
        x.year(17, true);
        int[] want = {6, 3, 2, 3, 17};
        for (int what = 0; what < 5; what++) {
            due("many " + what, x.many(what), want[what]);
        }
        due("what", x.many(5), OUTSIDE);
        due("what", x.many(-1), OUTSIDE);
        due("without a square", new StatueSquare().many(5), OUTSIDE);
        x = Check.laid(FULL_SQUARE);
        int[] most = {42, 7, 12, 10, 0};
        for (int what = 0; what < 5; what++) {
            due("most " + what, x.many(what), most[what]);
        }
    }
}
