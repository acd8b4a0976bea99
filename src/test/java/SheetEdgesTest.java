/**
 * Promises 22 to 32 and part 5 of the terms: each sentence that names an edge, with the last input
 * on one side of it and the first on the other. What is checked is told in the document's words.
 */
public final class SheetEdgesTest {
    private static final int UNKNOWN = -1, OUTSIDE = -2, NONE = -9;
    private static final int NULL = -11, CAST = -12, INDEX = -13, SIZE = -14;
    private static final long LOST = Long.MIN_VALUE;
    private static final int LEAST = Integer.MIN_VALUE, MOST = Integer.MAX_VALUE;
    private static final int SHEETS = 4, LANES = 3, MOST_CALLS = 512;
    private static final int[] NO_SHEET = {-1, 4, LEAST, MOST};
    private static final int[] NO_LANE = {-1, 3, LEAST, MOST};
    private static final String TEN_THINGS = "q27;l1l2l3l4u5u6u7;t7t8t9....";

    private static final Check check = new Check();

    public static void main(String[] args) {
        nothingAtFirst();
        sheetNumbersAndLanes();
        rowLengths();
        newRowsAreNought();
        loseSheets();
        putPlaces();
        putIsCutToItsLane();
        cellPlaces();
        cellTakenAsALane();
        copyNulls();
        copyUnlikeLanes();
        copyPlaces();
        copyToTheSame();
        copyAsTheyWere();
        squarePlaces();
        squareFaultsInOrder();
        tellByBodies();
        tendByBodies();
        thingNumbers();
        traceWraps();
        asKinds();
        faultAheadOfAny();
        faultOfTheLatest();
        manyWhats();
        longestRun();
        check.end();
    }

    private static void due(String call, long got, long want) {
        check.due(call, got, want);
    }

    private static void failed(StatueSquare x, String call, long got, long want, int fault) {
        due(call, got, want);
        due("fault of " + call, x.fault(), fault);
    }

    // ---- SHEETS

    private static void nothingAtFirst() {
        check.about("SHEETS 0 .. 3 have nothing (at first)");
        for (int k = 0; k < SHEETS; k++) {
            StatueSquare x = new StatueSquare();
            failed(x, "put", x.put(k, 0, 0), NULL, 1);
            failed(x, "copy", x.copy(k, 0, k, 0, 0), NULL, 1);
            for (int lane = 0; lane < LANES; lane++) {
                failed(x, "cell", x.cell(k, 0, lane), LOST, 1);
                failed(x, "square", x.square(k, lane, 0, 0), NULL, 1);
            }
            due("lose", x.lose(k), 0);
        }
    }

    private static void sheetNumbersAndLanes() {
        check.about("sheet: UNKNOWN; OUTSIDE: lane");
        for (int k = 0; k < SHEETS; k++) {
            for (int lane = 0; lane < LANES; lane++) {
                StatueSquare x = new StatueSquare();
                failed(x, "sheet", x.sheet(k, lane, 1), 1, 0);
                failed(x, "of its lane", x.cell(k, 0, lane), 0, 0);
                failed(x, "of no other", x.cell(k, 0, (lane + 1) % LANES), LOST, 2);
                failed(x, "of no other", x.cell(k, 0, (lane + 2) % LANES), LOST, 2);
                for (int other = 0; other < SHEETS; other++) {
                    due("just this one", x.lose(other), other == k ? 1 : 0);
                }
            }
        }
        StatueSquare x = new StatueSquare();
        for (int k : NO_SHEET) {
            failed(x, "sheet " + k, x.sheet(k, 0, 0), UNKNOWN, 0);
            failed(x, "UNKNOWN is ahead of OUTSIDE", x.sheet(k, 3, 101), UNKNOWN, 0);
            failed(x, "UNKNOWN is ahead of SIZE", x.sheet(k, 0, -1), UNKNOWN, 0);
        }
        for (int lane : NO_LANE) {
            failed(x, "lane " + lane, x.sheet(0, lane, 0), OUTSIDE, 0);
            failed(x, "OUTSIDE is ahead of SIZE", x.sheet(0, lane, -1), OUTSIDE, 0);
        }
    }

    private static void rowLengths() {
        check.about("a row of 0 .. 100 numbers; sheet: n above 100; SIZE");
        for (int lane = 0; lane < LANES; lane++) {
            StatueSquare x = new StatueSquare();
            failed(x, "101", x.sheet(0, lane, 101), OUTSIDE, 0);
            failed(x, "far", x.sheet(0, lane, MOST), OUTSIDE, 0);
            failed(x, "-1", x.sheet(0, lane, -1), SIZE, 4);
            failed(x, "far below", x.sheet(0, lane, LEAST), SIZE, 4);
            due("none of these", x.lose(0), 0);
            failed(x, "100", x.sheet(0, lane, 100), 1, 0);
            due("its last cell", x.put(0, 99, 1), 1);
            failed(x, "beyond", x.put(0, 100, 1), INDEX, 3);
            failed(x, "0", x.sheet(0, lane, 0), 1, 0);
            failed(x, "no cell", x.put(0, 0, 1), INDEX, 3);
            due("a row of 0 is something", x.lose(0), 1);
            x.sheet(0, lane, 2);
            x.put(0, 1, 7);
            failed(x, "101", x.sheet(0, lane, 101), OUTSIDE, 0);
            failed(x, "-1", x.sheet(0, lane, -1), SIZE, 4);
            due("the old row stays", x.cell(0, 1, lane), 7);
        }
    }

    private static void newRowsAreNought() {
        check.about("numbers (0 at first)");
        StatueSquare x = new StatueSquare();
        x.sheet(2, 2, 100);
        for (int i = 0; i < 100; i++) {
            x.put(2, i, -1 - i);
        }
        x.sheet(2, 2, 50);
        x.sheet(2, 2, 100);
        for (int i = 0; i < 100; i++) {
            due("cell " + i, x.cell(2, i, 2), 0);
        }
        x.put(2, 99, 5);
        x.lose(2);
        x.sheet(2, 0, 100);
        due("after it was lost", x.cell(2, 99, 0), 0);
        x.sheet(1, 0, 100);
        x.put(1, 0, 9);
        due("each its own", x.cell(2, 0, 0), 0);
    }

    private static void loseSheets() {
        check.about("lose: A SHEET has nothing: 1; 0: it had nothing. UNKNOWN");
        StatueSquare x = new StatueSquare();
        for (int k = 0; k < SHEETS; k++) {
            x.sheet(k, 0, 1);
        }
        for (int k : NO_SHEET) {
            due("lose " + k, x.lose(k), UNKNOWN);
        }
        for (int k = 0; k < SHEETS; k++) {
            due("it had a row", x.lose(k), 1);
            due("it had nothing", x.lose(k), 0);
            failed(x, "put", x.put(k, 0, 0), NULL, 1);
            for (int other = k + 1; other < SHEETS; other++) {
                due("the others stay", x.put(other, 0, 0), 1);
            }
        }
    }

    private static void putPlaces() {
        check.about("put: UNKNOWN; NULL; INDEX");
        StatueSquare x = new StatueSquare();
        for (int k : NO_SHEET) {
            failed(x, "put to " + k, x.put(k, 0, 0), UNKNOWN, 0);
        }
        failed(x, "NULL is ahead of INDEX", x.put(0, -1, 0), NULL, 1);
        x.sheet(0, 1, 3);
        failed(x, "the first", x.put(0, 0, 10), 1, 0);
        failed(x, "the last", x.put(0, 2, 12), 1, 0);
        int[] wrong = {-1, 3, 99, 100, LEAST, MOST};
        for (int i : wrong) {
            failed(x, "put at " + i, x.put(0, i, 5), INDEX, 3);
        }
        due("cell 0", x.cell(0, 0, 1), 10);
        due("cell 1", x.cell(0, 1, 1), 0);
        due("cell 2", x.cell(0, 2, 1), 12);
        x.sheet(0, 1, 4);
        due("a longer row has it", x.put(0, 3, 1), 1);
        due("where another wrote nothing", x.cell(0, 0, 1), 0);
    }

    private static void putIsCutToItsLane() {
        check.about("what comes to a cell of it is cut to its LANE");
        int[][] bytes = {{127, 127}, {128, -128}, {-128, -128}, {-129, 127}, {255, -1}, {256, 0}, {257, 1},
            {MOST, -1}, {LEAST, 0}};
        int[][] shorts = {{127, 127}, {128, 128}, {32767, 32767}, {32768, -32768}, {-32768, -32768},
            {-32769, 32767}, {65535, -1}, {65536, 0}, {MOST, -1}, {LEAST, 0}};
        int[][] ints = {{32768, 32768}, {-32769, -32769}, {65536, 65536}, {MOST, MOST}, {LEAST, LEAST}};
        int[][][] byLane = {bytes, shorts, ints};
        for (int lane = 0; lane < LANES; lane++) {
            StatueSquare x = new StatueSquare();
            x.sheet(1, lane, 1);
            for (int[] row : byLane[lane]) {
                due("put", x.put(1, 0, row[0]), 1);
                due(row[0] + " in lane " + lane, x.cell(1, 0, lane), row[1]);
            }
        }
    }

    private static void cellPlaces() {
        check.about("cell: LOST: UNKNOWN, OUTSIDE: lane; INDEX");
        for (int lane = 0; lane < LANES; lane++) {
            StatueSquare x = new StatueSquare();
            x.sheet(3, lane, 2);
            x.put(3, 0, 5);
            x.put(3, 1, 6);
            failed(x, "the first", x.cell(3, 0, lane), 5, 0);
            failed(x, "the last", x.cell(3, 1, lane), 6, 0);
            int[] wrong = {-1, 2, 99, 100, LEAST, MOST};
            for (int i : wrong) {
                failed(x, "cell " + i, x.cell(3, i, lane), LOST, 3);
            }
            for (int k : NO_SHEET) {
                failed(x, "of sheet " + k, x.cell(k, 0, lane), LOST, 0);
            }
            for (int no : NO_LANE) {
                failed(x, "as lane " + no, x.cell(3, 0, no), LOST, 0);
                failed(x, "OUTSIDE is ahead of INDEX", x.cell(3, 2, no), LOST, 0);
                failed(x, "OUTSIDE is ahead of NULL", x.cell(0, 0, no), LOST, 0);
            }
            x.sheet(3, lane, 0);
            failed(x, "of a row of none", x.cell(3, 0, lane), LOST, 3);
        }
    }

    private static void cellTakenAsALane() {
        check.about("cell: FAULTS CAST (nothing is no CAST), NULL, INDEX");
        for (int lane = 0; lane < LANES; lane++) {
            StatueSquare x = new StatueSquare();
            for (int as = 0; as < LANES; as++) {
                failed(x, "nothing is no CAST", x.cell(0, 0, as), LOST, 1);
                failed(x, "NULL is ahead of INDEX", x.cell(0, -1, as), LOST, 1);
            }
            x.sheet(0, lane, 1);
            for (int as = 0; as < LANES; as++) {
                failed(x, "cell", x.cell(0, 0, as), as == lane ? 0 : LOST, as == lane ? 0 : 2);
                failed(x, "CAST is ahead of INDEX", x.cell(0, 1, as), LOST, as == lane ? 3 : 2);
            }
            x.lose(0);
            failed(x, "lost: nothing is no CAST", x.cell(0, 0, (lane + 1) % LANES), LOST, 1);
        }
    }

    // ---- copy

    private static void copyNulls() {
        check.about("copy: UNKNOWN; FAULTS NULL (the first, the other)");
        StatueSquare x = new StatueSquare();
        x.sheet(0, 0, 2);
        for (int k : NO_SHEET) {
            failed(x, "from " + k, x.copy(k, 0, 0, 0, 1), UNKNOWN, 0);
            failed(x, "to " + k, x.copy(0, 0, k, 0, 1), UNKNOWN, 0);
            failed(x, "UNKNOWN is ahead of NULL", x.copy(1, 0, k, 0, 1), UNKNOWN, 0);
            failed(x, "UNKNOWN is ahead of INDEX", x.copy(0, -1, k, 0, 1), UNKNOWN, 0);
        }
        failed(x, "from nothing", x.copy(3, 0, 0, 0, 0), NULL, 1);
        failed(x, "to nothing", x.copy(0, 0, 3, 0, 0), NULL, 1);
        failed(x, "NULL is ahead of INDEX", x.copy(3, -1, 0, 0, 0), NULL, 1);
        failed(x, "NULL is ahead of INDEX", x.copy(0, 0, 3, 0, -1), NULL, 1);
        failed(x, "none is there", x.copy(2, 0, 3, 0, 0), NULL, 1);
        x.sheet(1, 1, 2);
        x.lose(1);
        failed(x, "NULL is ahead of CAST, of what was lost", x.copy(0, 0, 1, 0, 0), NULL, 1);
        failed(x, "NULL is ahead of CAST, of what was lost", x.copy(1, 0, 0, 0, 0), NULL, 1);
    }

    private static void copyUnlikeLanes() {
        check.about("copy: CAST (unlike LANES)");
        for (int from = 0; from < LANES; from++) {
            for (int to = 0; to < LANES; to++) {
                StatueSquare x = new StatueSquare();
                x.sheet(0, from, 2);
                x.sheet(1, to, 2);
                x.put(0, 0, 5);
                boolean isLike = from == to;
                failed(x, "two", x.copy(0, 0, 1, 0, 2), isLike ? 2 : CAST, isLike ? 0 : 2);
                due("cell", x.cell(1, 0, to), isLike ? 5 : 0);
                failed(x, "none", x.copy(0, 0, 1, 0, 0), isLike ? 0 : CAST, isLike ? 0 : 2);
                failed(x, "CAST is ahead of INDEX", x.copy(0, 3, 1, 0, 0), isLike ? INDEX : CAST, isLike ? 3 : 2);
                failed(x, "CAST is ahead of INDEX", x.copy(0, 0, 1, 0, -1), isLike ? INDEX : CAST, isLike ? 3 : 2);
            }
        }
    }

    private static void copyPlaces() {
        check.about("copy: INDEX: i, j, n below 0 or beyond");
        int[][] good = {{0, 0, 0}, {0, 0, 3}, {1, 0, 3}, {2, 1, 2}, {3, 2, 1}, {4, 3, 0}, {0, 3, 0}, {4, 0, 0}};
        int[][] wrong = {{-1, 0, 0}, {0, -1, 0}, {0, 0, -1}, {-1, 0, 1}, {0, -1, 1}, {5, 0, 0}, {0, 4, 0}, {0, 0, 4},
            {2, 0, 3}, {0, 1, 3}, {4, 0, 1}, {0, 3, 1}, {4, 3, 1}, {1, 1, -1}, {LEAST, 0, 0}, {0, LEAST, 0},
            {0, 0, LEAST}, {MOST, 0, 0}, {0, MOST, 0}, {0, 0, MOST}, {MOST, 0, 1}, {0, MOST, 1}, {1, 0, MOST},
            {0, 1, MOST}, {MOST, MOST, MOST}, {2, 2, LEAST}, {-1, -1, 2}};
        for (int lane = 0; lane < LANES; lane++) {
            StatueSquare x = new StatueSquare();
            x.sheet(0, lane, 4);
            x.sheet(1, lane, 3);
            x.put(0, 0, 1);
            for (int[] w : wrong) {
                String call = "copy " + w[0] + " " + w[1] + " " + w[2];
                failed(x, call, x.copy(0, w[0], 1, w[1], w[2]), INDEX, 3);
                due("nothing came", x.cell(1, 0, lane), 0);
            }
            for (int[] g : good) {
                String call = "copy " + g[0] + " " + g[1] + " " + g[2];
                failed(x, call, x.copy(0, g[0], 1, g[1], g[2]), g[2], 0);
            }
        }
        StatueSquare x = new StatueSquare();
        x.sheet(0, 0, 0);
        failed(x, "none of none", x.copy(0, 0, 0, 0, 0), 0, 0);
        failed(x, "beyond none", x.copy(0, 1, 0, 0, 0), INDEX, 3);
        failed(x, "to beyond none", x.copy(0, 0, 0, 1, 0), INDEX, 3);
        failed(x, "one of none", x.copy(0, 0, 0, 0, 1), INDEX, 3);
    }

    private static void copyToTheSame() {
        check.about("copy: to another one (perhaps the same), as they were");
        int[][] rows = {{0, 1, 4, 1, 1, 2, 3, 4}, {1, 0, 4, 2, 3, 4, 5, 5}, {0, 2, 3, 1, 2, 1, 2, 3},
            {2, 0, 3, 3, 4, 5, 4, 5}, {0, 0, 5, 1, 2, 3, 4, 5}, {0, 4, 1, 1, 2, 3, 4, 1}, {4, 0, 1, 5, 2, 3, 4, 5}};
        for (int lane = 0; lane < LANES; lane++) {
            for (int[] row : rows) {
                StatueSquare x = new StatueSquare();
                x.sheet(2, lane, 5);
                for (int i = 0; i < 5; i++) {
                    x.put(2, i, i + 1);
                }
                due("copy", x.copy(2, row[0], 2, row[1], row[2]), row[2]);
                for (int i = 0; i < 5; i++) {
                    due("from " + row[0] + " to " + row[1] + ", cell " + i, x.cell(2, i, lane), row[3 + i]);
                }
            }
        }
    }

    private static void copyAsTheyWere() {
        check.about("copy: n cells of a SHEET from i on go to another one from j on: n");
        StatueSquare x = new StatueSquare();
        x.sheet(0, 2, 100);
        x.sheet(3, 2, 100);
        for (int i = 0; i < 100; i++) {
            x.put(0, i, LEAST + i);
        }
        due("all", x.copy(0, 0, 3, 0, 100), 100);
        for (int i = 0; i < 100; i++) {
            due("cell", x.cell(3, i, 2), LEAST + i);
        }
        x.put(0, 50, 1);
        due("two rows, not one", x.cell(3, 50, 2), LEAST + 50);
        due("the last to the first", x.copy(0, 99, 3, 0, 1), 1);
        due("it came", x.cell(3, 0, 2), LEAST + 99);
        due("its neighbour stays", x.cell(3, 1, 2), LEAST + 1);
        due("the first stays", x.cell(0, 99, 2), LEAST + 99);
    }

    // ---- square as a call on a SHEET

    private static void squarePlaces() {
        check.about("INDEX (of cells from i on also where i is not 0 .. how many there are, if none is taken, too)");
        int[][] wrong = {{-1, 0}, {7, 0}, {-1, 1}, {0, 7}, {1, 6}, {6, 1}, {LEAST, 0}, {MOST, 0}, {0, MOST},
            {1, MOST}, {MOST, MOST}, {LEAST, MOST}, {-1, 7}};
        for (int lane = 0; lane < LANES; lane++) {
            StatueSquare x = new StatueSquare();
            Check.write(x, 0, lane, "q12;b.");
            for (int[] w : wrong) {
                failed(x, "square of " + w[1] + " from " + w[0], x.square(0, lane, w[0], w[1]), INDEX, 3);
            }
            due("no SQUARE came", x.many(0), 0);
            failed(x, "none, at the end", x.square(0, lane, 6, 0), -100, 0);
            failed(x, "none, at first", x.square(0, lane, 0, 0), -100, 0);
            failed(x, "one, the last", x.square(0, lane, 5, 1), -100, 0);
            failed(x, "all but one", x.square(0, lane, 0, 5), -105, 0);
            failed(x, "all", x.square(0, lane, 0, 6), 2, 0);
            x.sheet(0, lane, 0);
            failed(x, "none of none", x.square(0, lane, 0, 0), -100, 0);
            failed(x, "beyond none", x.square(0, lane, 1, 0), INDEX, 3);
            failed(x, "one of none", x.square(0, lane, 0, 1), INDEX, 3);
        }
    }

    private static void squareFaultsInOrder() {
        check.about("square: UNKNOWN; OUTSIDE: lane; CAST (nothing is no CAST); NULL; SIZE: n below 0; INDEX");
        StatueSquare x = new StatueSquare();
        x.sheet(0, 0, 3);
        for (int k : NO_SHEET) {
            failed(x, "sheet " + k, x.square(k, 0, 0, 0), UNKNOWN, 0);
            failed(x, "UNKNOWN is ahead of OUTSIDE", x.square(k, 3, 0, 0), UNKNOWN, 0);
            failed(x, "UNKNOWN is ahead of SIZE", x.square(k, 0, 0, -1), UNKNOWN, 0);
        }
        for (int lane : NO_LANE) {
            failed(x, "lane " + lane, x.square(0, lane, 0, 0), OUTSIDE, 0);
            failed(x, "OUTSIDE is ahead of NULL", x.square(1, lane, 0, 0), OUTSIDE, 0);
            failed(x, "OUTSIDE is ahead of SIZE", x.square(0, lane, 0, -1), OUTSIDE, 0);
        }
        for (int lane = 0; lane < LANES; lane++) {
            failed(x, "nothing is no CAST", x.square(1, lane, 0, 0), NULL, 1);
            failed(x, "NULL is ahead of SIZE", x.square(1, lane, 0, -1), NULL, 1);
            failed(x, "NULL is ahead of INDEX", x.square(1, lane, -1, 0), NULL, 1);
        }
        failed(x, "CAST", x.square(0, 1, 0, 0), CAST, 2);
        failed(x, "CAST is ahead of SIZE", x.square(0, 2, 0, -1), CAST, 2);
        failed(x, "CAST is ahead of INDEX", x.square(0, 2, 4, 0), CAST, 2);
        failed(x, "SIZE", x.square(0, 0, 0, -1), SIZE, 4);
        failed(x, "SIZE", x.square(0, 0, 0, LEAST), SIZE, 4);
        failed(x, "SIZE is ahead of INDEX", x.square(0, 0, -1, -1), SIZE, 4);
        failed(x, "SIZE is ahead of INDEX", x.square(0, 0, 4, -1), SIZE, 4);
        failed(x, "no SIZE", x.square(0, 0, 0, 0), -100, 0);
        failed(x, "INDEX", x.square(0, 0, 4, 0), INDEX, 3);
        failed(x, "INDEX is ahead of the FIRST FAULT", x.square(0, 0, 0, 4), INDEX, 3);
    }

    // ---- bodies

    private static int traceOf(int... bodies) {
        int trace = 0;
        for (int body : bodies) {
            trace = 31 * trace + body;
        }
        return trace;
    }

    private static void tellByBodies() {
        check.about("TELLING: LAMP (1), URN (2), TREE (3), as they begin");
        for (int first = 1; first <= 9; first += 8) {
            String text = "q13;l" + first + "u" + first + "t" + first;
            StatueSquare x = Check.laid(text);
            due("lamp", x.tell(0), first);
            due("trace", x.trace(), traceOf(1));
            x = Check.laid(text);
            due("urn", x.tell(1), first + 100);
            due("trace", x.trace(), traceOf(2, 1));
            x = Check.laid(text);
            due("tree", x.tell(2), 2 * first + 100);
            due("trace", x.trace(), traceOf(3, 2, 1, 1));
            x.year(30, true);
            x.cut(2, true);
            due("at first, in any YEAR", x.tell(2), 2 * first + 100);
        }
    }

    private static void tendByBodies() {
        check.about("TENDED by a lent body (4): its number; TREES have their own (5): 40");
        StatueSquare x = Check.laid(TEN_THINGS);
        int want = 0;
        for (int t = 0; t < 10; t++) {
            due("thing " + t, x.tend(t), t < 7 ? t : 40);
            want = 31 * want + (t < 7 ? 4 : 5);
            due("trace", x.trace(), want);
        }
        x = Check.laid("q27;t1t1t1t1t1t1t1;t1t1l9....");
        due("the last, a lamp", x.tend(9), 9);
        due("the first, a tree", x.tend(0), 40);
    }

    private static void thingNumbers() {
        check.about("tell, tend, as: UNKNOWN");
        int[] wrong = {-1, 10, 32, LEAST, MOST};
        StatueSquare x = Check.laid(TEN_THINGS);
        StatueSquare none = new StatueSquare();
        for (int t : wrong) {
            due("tell " + t, x.tell(t), UNKNOWN);
            due("tend " + t, x.tend(t), UNKNOWN);
            failed(x, "as " + t, x.as(t, 0), UNKNOWN, 0);
            failed(x, "UNKNOWN is ahead of OUTSIDE", x.as(t, 3), UNKNOWN, 0);
        }
        due("no body began", x.trace(), 0);
        due("the last", x.tell(9), 118);
        due("the last", x.as(9, 2), 1);
        due("no SQUARE", none.tell(0), UNKNOWN);
        due("no SQUARE", none.tend(0), UNKNOWN);
        failed(none, "no SQUARE", none.as(0, 0), UNKNOWN, 0);
        due("no body began", none.trace(), 0);
    }

    private static void traceWraps() {
        check.about("TRACE (an int that wraps, 0 at first, becomes 31 times it and the number)");
        StatueSquare x = Check.laid("q12;l1t1");
        due("at first", x.trace(), 0);
        // The seventh is 4585435685, told whole: the first that an int can't hold.
        long[] want = {5L, 160L, 4965L, 153920L, 4771525L, 147917280L, 290468389L, 414585472L};
        for (long w : want) {
            due("tend", x.tend(1), 40);
            due("trace", x.trace(), w);
        }
        StatueSquare y = Check.laid("q12;l1t1");
        java.math.BigInteger whole = java.math.BigInteger.ZERO;
        boolean wasBelow = false;
        for (int k = 0; k < 100; k++) {
            y.tend(0);
            whole = whole.multiply(java.math.BigInteger.valueOf(31)).add(java.math.BigInteger.valueOf(4));
            due("cut to 32 bits", y.trace(), whole.intValue());
            wasBelow |= y.trace() < 0;
        }
        check.isTrue("it was below 0 at times", wasBelow);
        int before = y.trace();
        Check.lay(y, "q12;..");
        due("a new SQUARE leaves it", y.trace(), before);
    }

    private static void asKinds() {
        check.about("as: A THING, taken as one of a kind: 1. UNKNOWN; OUTSIDE; CAST: it is none");
        StatueSquare x = Check.laid("q13;l1u1t1");
        int[] wrong = {-1, 3, LEAST, MOST};
        for (int t = 0; t < 3; t++) {
            for (int kind = 0; kind < 3; kind++) {
                boolean isOne = kind <= t;
                failed(x, t + " as " + kind, x.as(t, kind), isOne ? 1 : CAST, isOne ? 0 : 2);
            }
            for (int kind : wrong) {
                failed(x, t + " as " + kind, x.as(t, kind), OUTSIDE, 0);
            }
        }
        x.cut(0, true);
        failed(x, "CUT, still of its kind", x.as(0, 0), 1, 0);
        due("it begins no body", x.trace(), 0);
    }

    // ---- fault, many, the longest run

    private static void faultAheadOfAny() {
        check.about("fault: 0 ahead of any");
        StatueSquare x = new StatueSquare();
        due("at first", x.fault(), 0);
        x.whole();
        x.lose(0);
        x.tell(0);
        due("ahead of any that names one", x.fault(), 0);
    }

    private static StatueSquare withFault() {
        StatueSquare x = Check.laid("q14;bl1u1.");
        x.statue(3, 0);
        x.sheet(0, 0, 2);
        x.as(0, 2);
        due("CAST", x.fault(), 2);
        return x;
    }

    private static void faultOfTheLatest() {
        check.about("fault: The FAULT of the latest call that names one: 0: it came to none, or was refused");
        StatueSquare x = withFault();
        due("told, not taken", x.fault(), 2);
        due("told, not taken", x.fault(), 2);
        namesNone(x);
        due("calls that name none leave it", x.fault(), 2);
        x = withFault();
        failed(x, "square came to none", x.square(3, 2, 0, 10), 4, 0);
        x = withFault();
        failed(x, "square came to a FIRST FAULT", x.square(3, 2, 0, 1), -101, 0);
        x = withFault();
        failed(x, "sheet came to none", x.sheet(1, 0, 0), 1, 0);
        x = withFault();
        failed(x, "put came to none", x.put(0, 1, 1), 1, 0);
        x = withFault();
        failed(x, "cell came to none", x.cell(0, 1, 0), 0, 0);
        x = withFault();
        failed(x, "copy came to none", x.copy(0, 0, 0, 0, 2), 2, 0);
        x = withFault();
        failed(x, "as came to none", x.as(1, 1), 1, 0);
        failed(x, "NULL", x.put(1, 0, 0), NULL, 1);
        failed(x, "SIZE", x.sheet(0, 0, -1), SIZE, 4);
        failed(x, "INDEX", x.put(0, 2, 0), INDEX, 3);
        failed(x, "CAST", x.as(1, 2), CAST, 2);
    }

    /** Every call that names no FAULT, taken and refused. */
    private static void namesNone(StatueSquare x) {
        int[] numbers = {0, 99};
        for (int n : numbers) {
            x.cellHas(n);
            x.ofThing(n, n);
            x.bench(n);
            x.year(n, false);
            x.cut(n, false);
            x.price(n, 1);
            x.statue(n == 0 ? 3 : n, 0);
            x.seen(n);
            x.whole();
            x.hidden(n);
            x.sight(n);
            x.best(n, 0);
            x.block(n == 0 ? 3 : n, 0);
            x.cuts(n);
            x.complaints();
            x.moved(n);
            x.years();
            x.second();
            x.lit(n);
            x.lose(n == 0 ? 1 : n);
            x.tell(n);
            x.tend(n);
            x.trace();
            x.many(n);
        }
    }

    private static void manyWhats() {
        check.about("many: 0 CELLS, 1 WIDE, 2 BENCHES, 3 THINGS, 4 YEAR (0 all without a SQUARE). OUTSIDE");
        StatueSquare none = new StatueSquare();
        StatueSquare x = Check.laid("q32;b.;bl1;b.");
        x.year(30, true);
        int[] want = {6, 2, 3, 1, 30};
        for (int what = 0; what < 5; what++) {
            due("without a SQUARE", none.many(what), 0);
            due("many " + what, x.many(what), want[what]);
        }
        int[] wrong = {-1, 5, LEAST, MOST};
        for (int what : wrong) {
            due("without a SQUARE", none.many(what), OUTSIDE);
            due("many " + what, x.many(what), OUTSIDE);
        }
    }

    private static void longestRun() {
        check.about("An object is used for at most 512 calls");
        StatueSquare x = new StatueSquare();
        String text = "q67;bbbbbbb;bbbbb..;l1l2l3l4l5u6u7;u8t9t1....;.......;.......";
        int calls = 0;
        int rounds = (MOST_CALLS - 1) / (text.length() + 3);
        for (int k = 0; k < rounds; k++) {
            // A new row, its cells, the SQUARE, the STATUE.
            due("square", Check.lay(x, text), 42);
            due("statue", x.statue(41, 9), NONE);
            calls += text.length() + 3;
        }
        for (; calls < MOST_CALLS - 1; calls++) {
            due("it stands", x.statue(41, 9), 41);
        }
        due("the 512th", x.best(9, 1), 12);
    }
}
