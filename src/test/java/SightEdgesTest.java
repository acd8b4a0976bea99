/**
 * Promises 9 to 21 and parts 2 to 4 of the terms: each sentence that names an edge, with the last
 * input on one side of it and the first on the other. What is checked is told in the document's words.
 */
public final class SightEdgesTest {
    private static final int UNKNOWN = -1, OUTSIDE = -2, STATE = -3, NONE = -9;
    private static final long LOST = Long.MIN_VALUE;
    private static final int LEAST = Integer.MIN_VALUE, MOST = Integer.MAX_VALUE;
    private static final int HIGH = 6, WIDE = 7;
    private static final int[] HEIGHTS = {1, 3, 5, 7};
    /** Eight BENCHES around CELL 17, and ten THINGS between them and it. */
    private static final String RING = "q57;.b.b.b.;..l9l9l9..;bl9l9.l9l9b;..l9l9l9..;.b.b.b.";
    private static final int RING_MIDST = 17;
    /** Twelve BENCHES, and a last row: one of them, CELL 15, LAMP, nothing (CELL 17). */
    private static final String TWELVE = "q36;bbbbbb;bbbbb.;...bl9.";
    private static final String EMPTY = "q67" + ";.......".repeat(6);

    private static final Check check = new Check();

    public static void main(String[] args) {
        statueCells();
        statueBlocks();
        statueOnSomething();
        statueComesFrom();
        noStatue();
        benchNumbers();
        eyeIsAtTwo();
        partsByTheirHeights();
        asTallOrTaller();
        straightBetween();
        justThingsAreInTheWay();
        whatIsCutIsNotThere();
        wholeIsAllFour();
        hiddenOfSomePart();
        shareInLeastTerms();
        shareWithoutBenches();
        bestBlocksAndWhats();
        bestOfSeveralIsTheLeast();
        bestWhereThereIsNone();
        blockCellsAndWhats();
        leastBlock();
        leastBlockOfSeveral();
        cutsWhats();
        cutsAreTheCheapest();
        complaintsAreTheRest();
        movedBits();
        movedEachAlone();
        yearsFromThisOneOn();
        yearsToTheLast();
        secondIsSeenInNoPart();
        secondByThoseThatSeeWhole();
        secondAsALongSet();
        litAwayInRowsAndColumns();
        litNoHigherThanTall();
        litByKindNought();
        litByTheFewest();
        litWhats();
        benchesOfAnOlderSquare();
        askingChangesNothing();
        check.end();
    }

    private static void due(String call, long got, long want) {
        check.due(call, got, want);
    }

    /** One row: a BENCH, a THING at m of so many steps, a free CELL behind the last of them. */
    private static StatueSquare alley(int steps, int m, String thing) {
        return Check.laid("q1" + (steps + 1) + ";b" + ".".repeat(m - 1) + thing + ".".repeat(steps - m));
    }

    // ---- 2 the statue

    private static void statueCells() {
        check.about("statue: UNKNOWN: CELL");
        StatueSquare x = Check.laid(EMPTY);
        due("before", x.statue(-1, 0), UNKNOWN);
        due("beyond", x.statue(42, 0), UNKNOWN);
        due("far", x.statue(LEAST, 0), UNKNOWN);
        due("far", x.statue(MOST, 0), UNKNOWN);
        due("UNKNOWN is ahead of OUTSIDE", x.statue(42, 10), UNKNOWN);
        due("the first cell", x.statue(0, 0), NONE);
        due("the last cell", x.statue(41, 0), 0);
        x = Check.laid("q12;..");
        due("the last cell", x.statue(1, 0), NONE);
        due("beyond", x.statue(2, 0), UNKNOWN);
        due("without a SQUARE", new StatueSquare().statue(0, 0), UNKNOWN);
    }

    private static void statueBlocks() {
        check.about("statue: OUTSIDE: block (0 .. 9)");
        StatueSquare x = Check.laid("q12;b.");
        int[] wrong = {-1, 10, LEAST, MOST};
        for (int block : wrong) {
            due("block " + block, x.statue(1, block), OUTSIDE);
            due("OUTSIDE is ahead of STATE", x.statue(0, block), OUTSIDE);
            due("refused: none stands", x.whole(), STATE);
        }
        due("the lowest", x.statue(1, 0), NONE);
        due("the highest", x.statue(1, 9), 1);
        for (int block : wrong) {
            due("block " + block, x.statue(1, block), OUTSIDE);
        }
    }

    private static void statueOnSomething() {
        check.about("statue: STATE: there is something");
        StatueSquare x = Check.laid("q15;bl1u1t1.");
        for (int c = 0; c < 4; c++) {
            due("cell " + c, x.statue(c, 0), STATE);
        }
        due("nothing there", x.statue(4, 0), NONE);
        due("just the STATUE there", x.statue(4, 0), 4);
        due("refused", x.statue(0, 9), STATE);
        due("it stays", x.statue(4, 0), 4);
        for (int t = 0; t < 3; t++) {
            x.cut(t, true);
            due("what is CUT may grow again", x.statue(1 + t, 0), STATE);
        }
    }

    private static void statueComesFrom() {
        check.about("statue: the CELL on which it was; NONE");
        StatueSquare x = Check.laid("q13;...");
        due("nowhere", x.statue(0, 0), NONE);
        due("from 0", x.statue(2, 0), 0);
        due("from 2", x.statue(1, 0), 2);
        due("from 1, to 1", x.statue(1, 9), 1);
    }

    private static void noStatue() {
        check.about("STATE: there is no STATUE");
        StatueSquare x = Check.laid("q13;b..");
        for (int round = 0; round < 2; round++) {
            due("seen", x.seen(0), STATE);
            due("seen, no bench", x.seen(1), UNKNOWN);
            due("whole", x.whole(), STATE);
            due("hidden", x.hidden(0), STATE);
            due("hidden, no bench", x.hidden(1), UNKNOWN);
            due("sight", x.sight(0), LOST);
            due("sight", x.sight(1), LOST);
            due("cuts", x.cuts(0), STATE);
            due("cuts", x.cuts(2), OUTSIDE);
            due("complaints", x.complaints(), STATE);
            due("moved", x.moved(1), STATE);
            due("moved", x.moved(2), OUTSIDE);
            due("years", x.years(), STATE);
            due("second", x.second(), LOST);
            due("lit", x.lit(1), STATE);
            due("lit", x.lit(2), OUTSIDE);
            // Those two need just a SQUARE.
            due("best", x.best(0, 0), 1);
            due("block", x.block(1, 0), 0);
            x.statue(1, 0);
            due("one stands", x.whole(), 1);
            Check.lay(x, "q13;b..");
        }
    }

    private static void benchNumbers() {
        check.about("seen, hidden: UNKNOWN");
        StatueSquare x = Check.laid(TWELVE);
        for (int round = 0; round < 2; round++) {
            int[] wrong = {-1, 12, LEAST, MOST};
            for (int b : wrong) {
                due("seen " + b, x.seen(b), UNKNOWN);
                due("hidden " + b, x.hidden(b), UNKNOWN);
            }
            x.statue(17, 0);
        }
        due("the first sees", x.seen(0), 15);
        due("the last does not see", x.seen(11), 0);
        due("the first has none", x.hidden(0), 0);
        due("the last has one", x.hidden(11), 1);
        x = Check.laid("q12;..");
        x.statue(0, 0);
        due("no benches", x.seen(0), UNKNOWN);
        due("no benches", x.hidden(0), UNKNOWN);
    }

    private static void eyeIsAtTwo() {
        check.about("An eye on a BENCH is at height 2");
        // A foot on a block of 1 is at height 2: so is the whole line.
        for (int steps = 2; steps <= 6; steps++) {
            for (int m = 1; m < steps; m++) {
                StatueSquare x = alley(steps, m, "l1");
                x.statue(steps, 1);
                due("1 is below the line", x.seen(0), 15);
                x = alley(steps, m, "l2");
                x.statue(steps, 1);
                check.isTrue("2 is as tall as the line", (x.seen(0) & 1) == 0);
            }
        }
    }

    private static void partsByTheirHeights() {
        check.about("PARTS 0 .. 3 (foot, hand, breast, head) at heights 1, 3, 5, 7 above the block");
        // Halfway the lines are 3/2, 5/2, 7/2, 9/2 high, and half of the block.
        int[] byTall = {15, 15, 14, 12, 8, 0, 0, 0, 0, 0};
        for (int tall = 1; tall <= 9; tall++) {
            StatueSquare x = alley(2, 1, "l" + tall);
            for (int block = 0; block <= 9; block++) {
                x.statue(2, block);
                // A block of 1 makes the line just as high as a number: still in the way.
                int above = tall - block / 2;
                due("tall " + tall + ", block " + block, x.seen(0), above < 1 ? 15 : byTall[above]);
            }
        }
        // From a block of 9 they are 6, 7, 8, 9 high.
        int[] fromNine = {15, 15, 15, 15, 15, 15, 14, 12, 8, 0};
        for (int tall = 1; tall <= 9; tall++) {
            StatueSquare x = alley(2, 1, "l" + tall);
            x.statue(2, 9);
            due("tall " + tall + ", block 9", x.seen(0), fromNine[tall]);
        }
    }

    private static void asTallOrTaller() {
        check.about("as TALL or taller than the line is high there: 2, and m of M parts of how much higher");
        for (int steps = 2; steps <= 6; steps++) {
            for (int m = 1; m < steps; m++) {
                for (int tall = 1; tall <= 9; tall++) {
                    StatueSquare x = alley(steps, m, "l" + tall);
                    for (int block = 0; block <= 9; block++) {
                        x.statue(steps, block);
                        due("tall " + tall + " at " + m + " of " + steps + ", block " + block,
                            x.seen(0), seenPast(tall, m, steps, block));
                    }
                }
            }
        }
    }

    /** PARTS whose line is higher than tall at so many of the way's units. */
    private static int seenPast(int tall, int units, int way, int block) {
        int parts = 0;
        for (int p = 0; p < 4; p++) {
            int rise = block + HEIGHTS[p] - 2;
            parts |= (tall - 2) * way < units * rise ? 1 << p : 0;
        }
        return parts;
    }

    private static void straightBetween() {
        check.about("on a CELL whose midst lies straight between (0 < m < M)");
        for (int from = 0; from < HIGH * WIDE; from++) {
            for (int on = 0; on < HIGH * WIDE; on++) {
                if (on != from) {
                    fromBenchPastThing(from, on);
                }
            }
        }
    }

    /** The STATUE on every other CELL of the greatest SQUARE. */
    private static void fromBenchPastThing(int from, int on) {
        StringBuilder text = new StringBuilder("q67");
        for (int c = 0; c < HIGH * WIDE; c++) {
            text.append(c % WIDE == 0 ? ";" : "").append(c == from ? "b" : c == on ? "l4" : ".");
        }
        StatueSquare x = Check.laid(text.toString());
        for (int to = 0; to < HIGH * WIDE; to++) {
            if (to != from && to != on) {
                x.statue(to, 1);
                due("from " + from + " past " + on + " to " + to, x.seen(0), seenAcross(from, on, to));
                due("hidden", x.hidden(0), seenAcross(from, on, to) == 15 ? 0 : 1);
            }
        }
    }

    private static int seenAcross(int from, int on, int to) {
        int rows = to / WIDE - from / WIDE;
        int columns = to % WIDE - from % WIDE;
        int itsRows = on / WIDE - from / WIDE;
        int itsColumns = on % WIDE - from % WIDE;
        boolean onTheLine = rows * itsColumns == columns * itsRows;
        int way = rows * rows + columns * columns;
        int along = rows * itsRows + columns * itsColumns;
        boolean isBetween = onTheLine && along > 0 && along < way;
        return isBetween ? seenPast(4, along, way, 1) : 15;
    }

    private static void justThingsAreInTheWay() {
        check.about("if no THING is IN THE WAY: a THING that is there");
        StatueSquare x = Check.laid("q17;bbbbbb.");
        x.statue(6, 0);
        due("benches are not in the way", x.whole(), 63);
        x = Check.laid("q13;bl5.");
        x.statue(2, 0);
        due("nothing is seen past a lamp of 5", x.seen(0), 0);
        x = Check.laid("q13;bl1.");
        x.statue(2, 0);
        due("all is seen past a lamp of 1", x.seen(0), 15);
        x = Check.laid("q13;bu1.");
        x.statue(2, 0);
        due("an urn of 1 is 2 tall", x.seen(0), 14);
        x.year(0, true);
        due("in winter it is 1 tall", x.seen(0), 15);
        x = Check.laid("q13;bt3.");
        x.statue(2, 0);
        due("a tree of 3 is 4 tall", x.seen(0), 8);
        x.year(2, false);
        due("two years are no three", x.seen(0), 8);
        x.year(3, false);
        due("in year 3 it is 5 tall", x.seen(0), 0);
        x.year(2, true);
        due("in winter 2 half of 3 is 1", x.seen(0), 15);
        x.year(3, true);
        due("in winter 3 half of 4 is 2", x.seen(0), 14);
    }

    private static void whatIsCutIsNotThere() {
        check.about("What is CUT is not there");
        StatueSquare x = Check.laid("q14;.bl9.");
        x.statue(3, 0);
        for (int round = 0; round < 2; round++) {
            boolean isCut = x.ofThing(0, 4) == 1;
            due("seen", x.seen(0), isCut ? 15 : 0);
            due("whole", x.whole(), isCut ? 1 : 0);
            due("hidden", x.hidden(0), isCut ? 0 : 1);
            due("sight", x.sight(0), isCut ? 1 : 0);
            due("best", x.best(0, 0), 0);
            due("block", x.block(3, 1), isCut ? 1 : 0);
            due("cuts", x.cuts(0), isCut ? 0 : 1);
            due("complaints", x.complaints(), isCut ? 0 : 1);
            due("moved", x.moved(0), isCut ? 0 : 1);
            due("years", x.years(), isCut ? NONE : 0);
            due("second", x.second(), isCut ? 0 : 1);
            due("lit", x.lit(0), isCut ? 0 : 1);
            due("lit", x.lit(1), isCut ? 0 : 15);
            x.cut(0, true);
        }
    }

    private static void wholeIsAllFour() {
        check.about("WHOLE: all four PARTS are SEEN");
        StatueSquare x = Check.laid("q13;bl2.");
        x.statue(2, 1);
        due("three are seen", x.seen(0), 14);
        due("not whole", x.whole(), 0);
        x.statue(2, 2);
        due("four are seen", x.seen(0), 15);
        due("whole", x.whole(), 1);
        x = Check.laid(TWELVE);
        x.statue(17, 0);
        due("eleven of twelve", x.whole(), 2047);
        x.cut(0, true);
        due("twelve", x.whole(), 4095);
        x = Check.laid("q12;..");
        x.statue(0, 0);
        due("no benches", x.whole(), 0);
    }

    private static void hiddenOfSomePart() {
        check.about("HIDDEN of a BENCH: THINGS that are IN THE WAY of some PART, as a set of their numbers");
        StatueSquare x = Check.laid("q17;bl1l2l3l4l5.");
        // The foot's line is 2 high, and m of 6 parts of what the block is above 1.
        int[] want = {30, 30, 28, 28, 24, 0, 0, 0, 0, 0};
        for (int block = 0; block <= 9; block++) {
            x.statue(6, block);
            due("block " + block, x.hidden(0), want[block]);
        }
        x = Check.laid(RING);
        x.statue(RING_MIDST, 0);
        int[] byBench = {1, 2, 4, 8 + 16, 32 + 64, 128, 256, 512};
        for (int b = 0; b < 8; b++) {
            due("bench " + b, x.hidden(b), byBench[b]);
        }
    }

    private static void share(StatueSquare x, String what, int upper, int lower) {
        due(what + ", upper", x.sight(0), upper);
        due(what + ", lower", x.sight(1), lower);
    }

    private static void shareInLeastTerms() {
        check.about("Shares are told as upper and lower number (above 0) in least terms");
        int[][] byTall = {{1, 1, 1}, {2, 3, 4}, {3, 1, 2}, {4, 1, 4}, {5, 0, 1}};
        for (int[] row : byTall) {
            StatueSquare x = alley(2, 1, "l" + row[0]);
            x.statue(2, 0);
            share(x, "tall " + row[0], row[1], row[2]);
        }
        StatueSquare x = Check.laid(TWELVE);
        x.statue(17, 0);
        share(x, "44 of 48", 11, 12);
        x.statue(17, 9);
        share(x, "a lamp of 9 halfway is as tall as the line to the head", 11, 12);
        x.cut(0, true);
        share(x, "48 of 48", 1, 1);
        int[] wrong = {-1, 2, LEAST, MOST};
        for (int which : wrong) {
            due("which " + which, x.sight(which), LOST);
        }
        x = Check.laid(RING);
        x.statue(RING_MIDST, 0);
        share(x, "0 of 32", 0, 1);
        x.cut(0, true);
        share(x, "4 of 32", 1, 8);
        x.cut(1, true);
        x.cut(2, true);
        share(x, "12 of 32", 3, 8);
        x = Check.laid("q27;bbb.bl4.;.......");
        x.statue(6, 0);
        // The far ones see breast and head, the near one just the head.
        share(x, "7 of 16", 7, 16);
    }

    private static void shareWithoutBenches() {
        check.about("0 of 1 without BENCHES");
        StatueSquare x = Check.laid("q13;.l1.");
        x.statue(0, 0);
        share(x, "no benches", 0, 1);
        x = Check.laid("q13;bl1.");
        x.statue(2, 0);
        share(x, "one bench", 1, 1);
    }

    // ---- 3 where, what to cut

    private static void bestBlocksAndWhats() {
        check.about("best: OUTSIDE; STATE: there is no SQUARE");
        StatueSquare none = new StatueSquare();
        StatueSquare x = Check.laid("q13;b..");
        int[] blocks = {-1, 10, LEAST, MOST};
        int[] whats = {-1, 2, LEAST, MOST};
        for (int block : blocks) {
            due("block " + block, x.best(block, 0), OUTSIDE);
            due("block " + block, x.best(block, 1), OUTSIDE);
            due("OUTSIDE is ahead", none.best(block, 0), OUTSIDE);
        }
        for (int what : whats) {
            due("what " + what, x.best(0, what), OUTSIDE);
            due("what " + what, x.best(9, what), OUTSIDE);
            due("OUTSIDE is ahead", none.best(0, what), OUTSIDE);
        }
        int[] ends = {0, 9};
        for (int block : ends) {
            due("cell", x.best(block, 0), 1);
            due("how many", x.best(block, 1), 1);
            due("no SQUARE", none.best(block, 0), STATE);
            due("no SQUARE", none.best(block, 1), STATE);
        }
    }

    private static void bestOfSeveralIsTheLeast() {
        check.about("the CELL with nothing (the STATUE's, too) on which the most BENCHES saw it; of several the least");
        StatueSquare x = Check.laid("q17;.l2b.b..");
        due("3, 5 and 6 are seen from both", x.best(0, 0), 3);
        due("both", x.best(0, 1), 2);
        // To CELL 0 the lamp of 2 is at 1 of 2, and at 3 of 4: a level line is not higher than it.
        due("a block of 1 is too low", x.best(1, 0), 3);
        due("a block of 2 will do", x.best(2, 0), 0);
        due("both", x.best(2, 1), 2);
        x.statue(3, 9);
        due("the STATUE's, too", x.best(0, 0), 3);
        x.statue(5, 9);
        due("where it stands, and how high, matters not", x.best(0, 0), 3);
        due("it stays", x.statue(5, 9), 5);
        x = Check.laid(EMPTY);
        due("no benches: the first", x.best(0, 0), 0);
        due("no benches", x.best(0, 1), 0);
        x = Check.laid(TWELVE);
        due("seen from all twelve", x.best(0, 0), 11);
        due("all twelve", x.best(0, 1), 12);
    }

    private static void bestWhereThereIsNone() {
        check.about("best: NONE: there is none with nothing; 0");
        StatueSquare x = Check.laid("q12;bb");
        due("none", x.best(0, 0), NONE);
        due("none", x.best(0, 1), 0);
        x = Check.laid("q12;l1.");
        due("just the last", x.best(0, 0), 1);
        x = Check.laid("q12;l1t1");
        due("none", x.best(9, 0), NONE);
        due("none", x.best(9, 1), 0);
        x.cut(0, true);
        due("what is CUT may grow again", x.best(9, 0), NONE);
        x = Check.laid("q13;bl9.");
        due("seen from no bench, but with nothing", x.best(0, 0), 2);
        due("from none", x.best(0, 1), 0);
    }

    private static void blockCellsAndWhats() {
        check.about("block: UNKNOWN; OUTSIDE; STATE: there is something");
        StatueSquare x = Check.laid("q13;bl9.");
        int[] cells = {-1, 3, LEAST, MOST};
        int[] whats = {-1, 2, LEAST, MOST};
        for (int c : cells) {
            due("cell " + c, x.block(c, 0), UNKNOWN);
            due("UNKNOWN is ahead", x.block(c, 2), UNKNOWN);
        }
        for (int what : whats) {
            due("what " + what, x.block(2, what), OUTSIDE);
            due("OUTSIDE is ahead", x.block(0, what), OUTSIDE);
            due("OUTSIDE is ahead", x.block(1, what), OUTSIDE);
        }
        for (int what = 0; what < 2; what++) {
            due("a bench", x.block(0, what), STATE);
            due("a thing", x.block(1, what), STATE);
            due("nothing", x.block(2, what), 0);
        }
        x.cut(0, true);
        due("what is CUT may grow again", x.block(1, 0), STATE);
        due("no SQUARE", new StatueSquare().block(0, 0), UNKNOWN);
        x = Check.laid(EMPTY);
        due("the first cell", x.block(0, 0), 0);
        due("the last cell", x.block(41, 0), 0);
        due("beyond", x.block(42, 0), UNKNOWN);
    }

    private static void leastBlock() {
        check.about("the least one 0 .. 9 by which as many as may be saw it WHOLE there");
        // At 1 of 2 the foot's line is 2 high, and half of what the block is above 1.
        int[] halfway = {0, 0, 2, 4, 6, 8, 0, 0, 0, 0};
        int[] count = {0, 1, 1, 1, 1, 1, 0, 0, 0, 0};
        for (int tall = 1; tall <= 9; tall++) {
            StatueSquare x = alley(2, 1, "l" + tall);
            due("tall " + tall + " at 1 of 2", x.block(2, 0), halfway[tall]);
            due("tall " + tall + " at 1 of 2, how many", x.block(2, 1), count[tall]);
        }
        // At 2 of 5 it takes just the highest block for 5, and none is enough for 6.
        StatueSquare x = alley(5, 2, "l5");
        due("the highest", x.block(5, 0), 9);
        due("by the highest", x.block(5, 1), 1);
        x = alley(5, 2, "l6");
        due("too high", x.block(5, 0), 0);
        due("too high", x.block(5, 1), 0);
        // Halfway past 6 it would take a block of 10: from 9 the line is just 6 high.
        x = alley(2, 1, "l6");
        x.statue(2, 9);
        due("as tall as the line from 9", x.seen(0), 14);
    }

    private static void leastBlockOfSeveral() {
        check.about("as many as may be");
        StatueSquare x = Check.laid("q17;bl2.l3bl6b");
        // Bench 0 sees past 2 halfway by 2, bench 1 past 3 halfway by 4, bench 2 by none past 6.
        due("as many as may be", x.block(2, 0), 4);
        due("two", x.block(2, 1), 2);
        x.cut(2, true);
        // From bench 2 the lamp of 3 is at 3 of 4: 2 and three quarters of 4 - 1 is above 3.
        due("bench 2 sees by 4, too", x.block(2, 0), 4);
        due("all", x.block(2, 1), 3);
        x.statue(2, 0);
        due("the STATUE's own block matters not", x.block(2, 0), 4);
        x = Check.laid("q12;..");
        due("no benches", x.block(1, 0), 0);
        due("no benches", x.block(1, 1), 0);
    }

    private static void cutsWhats() {
        check.about("cuts: OUTSIDE; STATE");
        StatueSquare x = Check.laid("q13;bl9.");
        int[] wrong = {-1, 2, LEAST, MOST};
        for (int round = 0; round < 2; round++) {
            for (int what : wrong) {
                due("what " + what, x.cuts(what), OUTSIDE);
            }
            due("set", x.cuts(0), round == 0 ? STATE : 1);
            due("cost", x.cuts(1), round == 0 ? STATE : 1);
            x.statue(2, 0);
        }
        due("no SQUARE", new StatueSquare().cuts(0), STATE);
        due("no SQUARE, what", new StatueSquare().cuts(2), OUTSIDE);
    }

    private static void cutsAreTheCheapest() {
        check.about("CUTS: the THINGS that are there, each of a price (1 .. 9): the cheapest");
        StatueSquare x = Check.laid(RING);
        x.statue(RING_MIDST, 0);
        due("all ten", x.cuts(0), 1023);
        due("ten times 1", x.cuts(1), 10);
        for (int t = 0; t < 10; t++) {
            x.price(t, 9);
        }
        due("all ten", x.cuts(0), 1023);
        due("ten times 9", x.cuts(1), 90);
        for (int t = 0; t < 9; t++) {
            x.cut(t, true);
        }
        due("the last", x.cuts(0), 512);
        due("the last", x.cuts(1), 9);
        x.cut(9, true);
        due("none", x.cuts(0), 0);
        due("none", x.cuts(1), 0);
        due("there are ten", x.ofThing(9, 4), 1);
        x = Check.laid(TWELVE);
        x.statue(17, 0);
        due("by the last of twelve benches", x.cuts(0), 1);
        x = alley(2, 1, "l2");
        x.statue(2, 1);
        due("as tall as the line", x.cuts(0), 1);
        x.statue(2, 2);
        due("below it", x.cuts(0), 0);
        due("nothing was cut by asking", x.ofThing(0, 4), 0);
        x = Check.laid("q13;.l9.");
        x.statue(0, 0);
        due("no benches", x.cuts(0), 0);
        due("no benches", x.cuts(1), 0);
    }

    // ---- 4 complaints, a second one, light

    private static void complaintsAreTheRest() {
        check.about("COMPLAINTS: BENCHES that do not see the STATUE WHOLE, as a set");
        StatueSquare x = Check.laid(TWELVE);
        x.statue(17, 0);
        due("the last bench", x.complaints(), 2048);
        x.cut(0, true);
        due("none", x.complaints(), 0);
        x = Check.laid(RING);
        x.statue(RING_MIDST, 0);
        due("all eight", x.complaints(), 255);
        x.cut(0, true);
        due("all but the first", x.complaints(), 254);
        x.cut(0, false);
        x.cut(9, true);
        due("all but the last", x.complaints(), 127);
        x = alley(2, 1, "l2");
        x.statue(2, 1);
        due("three PARTS are not all", x.complaints(), 1);
        x.statue(2, 2);
        due("all four", x.complaints(), 0);
    }

    private static void movedBits() {
        check.about("moved: OUTSIDE: a bit of no BENCH");
        String[] texts = {"q12;..", "q12;b.", "q13;bb.", "q36;bbbbbb;bbbbb.;......", TWELVE};
        int[] benches = {0, 1, 2, 11, 12};
        int[] free = {1, 1, 2, 11, 17};
        for (int k = 0; k < texts.length; k++) {
            StatueSquare x = Check.laid(texts[k]);
            for (int round = 0; round < 2; round++) {
                int all = (1 << benches[k]) - 1;
                due("all bits", x.moved(all), round == 0 ? STATE : 0);
                due("no bit", x.moved(0), round == 0 ? STATE : k == 4 ? 1 : 0);
                due("one bit more", x.moved(all + 1), OUTSIDE);
                due("all bits more", x.moved(-1), OUTSIDE);
                due("the last bit", x.moved(LEAST), OUTSIDE);
                due("far", x.moved(MOST), OUTSIDE);
                due("bit 16", x.moved(1 << 16), OUTSIDE);
                x.statue(free[k], 0);
            }
        }
        due("no SQUARE", new StatueSquare().moved(0), STATE);
        due("no SQUARE, a bit", new StatueSquare().moved(1), OUTSIDE);
    }

    private static void movedEachAlone() {
        check.about("MOVED: THINGS that are there, each alone, would leave just told COMPLAINTS");
        StatueSquare x = Check.laid(RING);
        x.statue(RING_MIDST, 0);
        int[] gone = {1, 2, 4, 0, 0, 128, 256, 512};
        for (int b = 0; b < 8; b++) {
            due("all but bench " + b, x.moved(255 & ~(1 << b)), gone[b]);
        }
        due("benches 3 and 4 have two each", x.moved(255), 8 + 16 + 32 + 64);
        due("two fewer are not by one alone", x.moved(252), 0);
        x.cut(9, true);
        due("what is CUT is not moved", x.moved(127), 8 + 16 + 32 + 64);
        due("bench 0 and the one of what is CUT", x.moved(126), 1);
        due("nothing was moved by asking", x.complaints(), 127);
    }

    private static void yearsFromThisOneOn() {
        check.about("YEARS: the first YEAR from this one on; winter or not as it is");
        // Halfway from a block of 9 the foot's line is 6 high: a tree of 2 is 3, and 6 in year 9.
        StatueSquare x = alley(2, 1, "t2");
        x.statue(2, 9);
        int[][] rows = {{0, 9}, {8, 9}, {9, 9}, {10, 10}, {29, 29}, {30, 30}};
        for (int[] row : rows) {
            x.year(row[0], false);
            due("from " + row[0], x.years(), row[1]);
            due("the year stays", x.many(4), row[0]);
        }
        x.year(9, true);
        due("winter as it is", x.years(), 30);
        due("winter stays", x.ofThing(0, 3), 2);
    }

    private static void yearsToTheLast() {
        check.about("YEARS (to 30); NONE");
        // In winter a tree of 2 is 6 in year 30 (half of 12), a tree of 1 is 5 (half of 11).
        int[] from = {0, 27, 29, 30};
        for (int y : from) {
            StatueSquare x = alley(2, 1, "t2");
            x.statue(2, 9);
            x.year(y, true);
            due("just the last, from " + y, x.years(), 30);
            x = alley(2, 1, "t1");
            x.statue(2, 9);
            x.year(y, true);
            due("none, from " + y, x.years(), NONE);
            x = alley(2, 1, "l5");
            x.statue(2, 9);
            x.year(y, false);
            due("lamps do not grow, from " + y, x.years(), NONE);
            x = alley(2, 1, "l6");
            x.statue(2, 9);
            x.year(y, false);
            due("at once, from " + y, x.years(), y);
        }
        StatueSquare x = Check.laid("q13;.t9.");
        x.statue(0, 0);
        due("no benches", x.years(), NONE);
    }

    private static void secondIsSeenInNoPart() {
        check.about("SECOND: on which a second one with as high a block would be SEEN in no PART");
        // To CELL 2 the line to the head is 9/2 high at CELL 1, and half of the block.
        for (int tall = 1; tall <= 9; tall++) {
            StatueSquare x = Check.laid("q23;bl" + tall + ".;...");
            for (int block = 0; block <= 9; block++) {
                x.statue(3, block);
                boolean isUnseen = 2 * tall >= 9 + block;
                due("tall " + tall + ", block " + block, x.second(), isUnseen ? 4 : 0);
            }
        }
    }

    private static void secondByThoseThatSeeWhole() {
        check.about("SECOND: from those BENCHES from which the first one is seen WHOLE; but the STATUE's");
        StatueSquare x = Check.laid("q16;.l9b.l9.");
        x.statue(3, 0);
        due("behind both", x.second(), 1 + 32);
        x.statue(0, 0);
        due("seen whole from none: all but its own", x.second(), 8 + 32);
        x = Check.laid("q17;.bl2...b");
        x.statue(3, 0);
        // Bench 0 sees all but the foot, so just bench 1 counts; CELL 0 is behind the lamp for it.
        due("three PARTS are not WHOLE", x.complaints(), 1);
        due("bench 1 sees some PART everywhere", x.second(), 0);
        x = Check.laid("q17;.bl9...b");
        x.statue(3, 0);
        due("for bench 1 CELL 0 is behind the lamp", x.second(), 1);
        x.statue(0, 0);
        due("bench 0 sees no CELL past the lamp", x.second(), 8 + 16 + 32);
        x.cut(0, true);
        due("both see all", x.second(), 0);
    }

    private static void secondAsALongSet() {
        check.about("second: SECOND, as a set (a long)");
        StatueSquare x = Check.laid(EMPTY);
        long all = (1L << 42) - 1;
        int[] cells = {0, 31, 32, 41};
        for (int c : cells) {
            x.statue(c, 0);
            due("all but " + c, x.second(), all - (1L << c));
        }
        due("no SQUARE", new StatueSquare().second(), LOST);
    }

    private static void litAwayInRowsAndColumns() {
        check.about("if the STATUE is no more than 3 CELLS away in rows, and in columns");
        for (int on = 0; on < HIGH * WIDE; on++) {
            StringBuilder text = new StringBuilder("q67");
            for (int c = 0; c < HIGH * WIDE; c++) {
                text.append(c % WIDE == 0 ? ";" : "").append(c == on ? "l7" : ".");
            }
            StatueSquare x = Check.laid(text.toString());
            for (int c = 0; c < HIGH * WIDE; c++) {
                if (c != on) {
                    boolean isNear = isNear(on / WIDE, c / WIDE) && isNear(on % WIDE, c % WIDE);
                    x.statue(c, 0);
                    due("lamp on " + on + ", statue on " + c, x.lit(1), isNear ? 15 : 0);
                    due("set", x.lit(0), isNear ? 1 : 0);
                }
            }
        }
    }

    private static boolean isNear(int here, int there) {
        return here - there <= 3 && there - here <= 3;
    }

    private static void litNoHigherThanTall() {
        check.about("PARTS that are no higher (with the block) than it is TALL now");
        int[] byTall = {0, 1, 1, 3, 3, 7, 7, 15, 15, 15};
        for (int tall = 1; tall <= 9; tall++) {
            StatueSquare x = Check.laid("q12;l" + tall + ".");
            for (int block = 0; block <= 9; block++) {
                x.statue(1, block);
                due("tall " + tall + ", block " + block, x.lit(1), byTall[Math.max(0, tall - block)]);
            }
        }
    }

    private static void litByKindNought() {
        check.about("LIT: a THING of kind 0 that is there");
        StatueSquare x = Check.laid("q14;u9t9.l1");
        x.statue(2, 0);
        due("the lamp alone", x.lit(0), 4);
        due("the foot alone", x.lit(1), 1);
        x.cut(2, true);
        due("none", x.lit(0), 0);
        due("none", x.lit(1), 0);
        x.cut(2, false);
        x.year(30, true);
        due("a lamp is as tall in winter", x.lit(1), 1);
    }

    private static void litByTheFewest() {
        check.about("The fewest of them that light all PARTS that any can light; of several the least");
        StatueSquare x = Check.laid("q27;l1l1l3l5l6l7l8;...l9l7l1.");
        // From CELL 9 the lamp of 8 (number 6) is 4 columns away, the last (number 9) just 3.
        x.statue(9, 0);
        int[] oneByOne = {5, 7, 8, 3, 4, 2, 0, 1, 9};
        int[] parts = {15, 15, 15, 7, 7, 3, 1, 1, 1};
        for (int k = 0; k < oneByOne.length; k++) {
            due("parts, " + k + " cut", x.lit(1), parts[k]);
            due("lamp, " + k + " cut", x.lit(0), 1 << oneByOne[k]);
            x.cut(oneByOne[k], true);
        }
        due("none", x.lit(0), 0);
        due("none", x.lit(1), 0);
    }

    private static void litWhats() {
        check.about("lit: OUTSIDE; STATE");
        StatueSquare x = Check.laid("q12;l9.");
        int[] wrong = {-1, 2, LEAST, MOST};
        for (int round = 0; round < 2; round++) {
            for (int what : wrong) {
                due("what " + what, x.lit(what), OUTSIDE);
            }
            due("set", x.lit(0), round == 0 ? STATE : 1);
            due("parts", x.lit(1), round == 0 ? STATE : 15);
            x.statue(1, 0);
        }
        due("no SQUARE", new StatueSquare().lit(0), STATE);
    }

    private static void benchesOfAnOlderSquare() {
        check.about("A TEXT that is taken makes all anew (BENCHES that there were, THINGS that there were)");
        StatueSquare x = Check.laid("q15;bl9l9.b");
        Check.lay(x, "q15;b..l9.");
        x.statue(2, 0);
        due("whole", x.whole(), 1);
        due("complaints", x.complaints(), 0);
        due("cuts", x.cuts(0), 0);
        due("cost", x.cuts(1), 0);
        share(x, "all", 1, 1);
        due("years", x.years(), NONE);
        due("moved", x.moved(0), 1);
        due("second", x.second(), 16);
        due("best", x.best(0, 0), 1);
        due("best", x.best(0, 1), 1);
        due("block", x.block(2, 1), 1);
        due("lit", x.lit(0), 1);
        x.cut(0, true);
        due("lit", x.lit(0), 0);
    }

    private static void askingChangesNothing() {
        check.about("Nothing beyond the state changes described");
        StatueSquare x = Check.laid("q17;b.u3.l4t1.");
        x.statue(6, 3);
        x.year(5, true);
        int seen = x.seen(0);
        for (int k = 0; k < 10; k++) {
            x.whole();
            x.hidden(0);
            x.sight(0);
            x.best(k, 0);
            x.block(1, 0);
            x.cuts(0);
            x.complaints();
            x.moved(0);
            x.years();
            x.second();
            x.lit(0);
        }
        due("seen as it was", x.seen(0), seen);
        due("year", x.many(4), 5);
        due("winter", x.ofThing(0, 3), 3);
        due("not cut", x.ofThing(0, 4) + x.ofThing(1, 4) + x.ofThing(2, 4), 0);
        due("the statue", x.statue(6, 3), 6);
        due("its block", x.seen(0), seen);
    }
}
