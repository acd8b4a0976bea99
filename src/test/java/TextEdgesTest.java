/**
 * Promises 1 to 8 and part 1 of the terms: each sentence that names an edge, with the last input
 * on one side of it and the first on the other. What is checked is told in the document's words.
 */
public final class TextEdgesTest {
    private static final int UNKNOWN = -1, OUTSIDE = -2, STATE = -3, NONE = -9;
    private static final int LEAST = Integer.MIN_VALUE, MOST = Integer.MAX_VALUE;
    private static final int LANES = 3;
    private static final String SIGNS = ".blut", DIGITS = "123456789";
    /** Twelve BENCHES (CELLS 0 to 11) and ten THINGS (CELLS 14 to 23). */
    private static final String FULL_SQUARE =
        "q67;bbbbbbb;bbbbb..;l1l2l3l4l5u6u7;u8t9t1....;.......;.......";

    private static final Check check = new Check();

    public static void main(String[] args) {
        high();
        wide();
        rows();
        signs();
        howTallAtFirst();
        everyCodeAtEveryPlace();
        codesAreCutToTheirLane();
        endsTooSoon();
        goesOnTooLong();
        thirteenthBench();
        eleventhThing();
        countsBeginAnew();
        kinds();
        numbers();
        yearIsAnew();
        winterIsAnew();
        nothingIsCutAnew();
        pricesAreAnew();
        statueIsAnew();
        cellsAreAnew();
        whatIsNotTakenChangesNothing();
        cellsOfTheSheet();
        tallByKindAndYear();
        tallInWinter();
        cellHas();
        ofThing();
        bench();
        year();
        cut();
        price();
        check.end();
    }

    private static void due(String call, long got, long want) {
        check.due(call, got, want);
    }

    /** The TEXT by each LANE, each time on a new object. */
    private static void square(String text, int want) {
        for (int lane = 0; lane < LANES; lane++) {
            StatueSquare x = new StatueSquare();
            Check.write(x, lane, lane, text);
            due("square of '" + text + "' by lane " + lane, x.square(lane, lane, 0, text.length()), want);
            due("fault", x.fault(), 0);
            due("cells", x.many(0), Math.max(0, want));
        }
    }

    // ---- the TEXT

    private static void high() {
        check.about("a digit 1 .. 6 (HIGH)");
        square("q02", -101);
        for (int high = 1; high <= 6; high++) {
            square("q" + high + "2" + ";..".repeat(high), 2 * high);
        }
        square("q72" + ";..".repeat(7), -101);
        square("q/2", -101);
        square("q:2", -101);
    }

    private static void wide() {
        check.about("a digit 2 .. 7 (WIDE)");
        square("q11;.", -102);
        for (int wide = 2; wide <= 7; wide++) {
            square("q1" + wide + ";" + ".".repeat(wide), wide);
            due("wide", Check.laid("q2" + wide + (";" + ".".repeat(wide)).repeat(2)).many(1), wide);
        }
        square("q18;........", -102);
        square("q10;", -102);
        square("q1/", -102);
        square("q1:", -102);
    }

    private static void rows() {
        check.about("then HIGH times: ; and for each of WIDE CELLS a sign");
        square("q23;...;...", 6);
        square("q23...;...", -103);
        square("q23;..;...", -106);
        square("q23;....;..", -107);
        square("q23;......", -107);
        square("q23;...;..", -110);
        square("q23;...;....", -111);
        square("q23;...;...;", -111);
        square("q13;...;...", -107);
        square("q33;...;...", -111);
        square("q67" + ";.......".repeat(6), 42);
        square("q67" + ";l9l9l9l9l9l9l9;l9l9l9...." + ";.......".repeat(4), 42);
    }

    private static void signs() {
        check.about("a sign: . (nothing), b (a BENCH), or a letter and a digit (a THING)");
        square("q12;..", 2);
        square("q12;bb", 2);
        square("q12;l1l1", 2);
        square("q12;u1u1", 2);
        square("q12;t1t1", 2);
        square("q12;b1.", -105);
        square("q12;.1.", -105);
        square("q12;l.", -105);
        square("q12;l1", -106);
        square("q12;1.", -104);
    }

    private static void howTallAtFirst() {
        check.about("a digit 1 .. 9 (how TALL it is at first)");
        for (char letter : "lut".toCharArray()) {
            square("q12;." + letter + "0", -106);
            square("q12;." + letter + "/", -106);
            for (int tall = 1; tall <= 9; tall++) {
                StatueSquare x = Check.laid("q12;." + letter + tall);
                due("tall at first", x.ofThing(0, 2), tall);
            }
            square("q12;." + letter + ":", -106);
            square("q12;." + letter + "10", -107);
        }
    }

    private static void everyCodeAtEveryPlace() {
        check.about("FIRST FAULT: the place of the first code with which no TEXT goes on");
        String text = "q24;b.l1u9;t5..b";
        String[] goOn = {"q", "123456", "234567", ";", SIGNS, SIGNS, SIGNS, DIGITS, SIGNS, DIGITS, ";",
            SIGNS, DIGITS, SIGNS, SIGNS, SIGNS};
        for (int place = 0; place < text.length(); place++) {
            StatueSquare x = new StatueSquare();
            Check.write(x, 0, 1, text);
            for (int code = -1; code <= 130; code++) {
                x.put(0, place, code);
                boolean isFirst = x.square(0, 1, 0, text.length()) == -100 - place;
                boolean mayStand = code > 0 && goOn[place].indexOf((char) code) >= 0;
                check.isTrue("code " + code + " at " + place, isFirst != mayStand);
            }
        }
    }

    private static void codesAreCutToTheirLane() {
        check.about("what comes to a cell of it is cut to its LANE (codes)");
        String text = "q12;l1b";
        int[] more = {256, -256, 65536, -65536, LEAST};
        boolean[][] isSame = {{true, true, true, true, true}, {false, false, true, true, true},
            {false, false, false, false, false}};
        for (int lane = 0; lane < LANES; lane++) {
            for (int k = 0; k < more.length; k++) {
                for (int place = 0; place < text.length(); place++) {
                    StatueSquare x = new StatueSquare();
                    Check.write(x, 0, lane, text);
                    x.put(0, place, text.charAt(place) + more[k]);
                    due("code " + place + " and " + more[k] + " in lane " + lane,
                        x.square(0, lane, 0, text.length()), isSame[lane][k] ? 2 : -100 - place);
                }
            }
        }
    }

    private static void endsTooSoon() {
        check.about("how many codes there are, if it just ends too soon");
        String[] texts = {"q12;..", "q23;b.l1;t2bu3", FULL_SQUARE, "q67" + ";.......".repeat(6)};
        for (String text : texts) {
            for (int n = 0; n < text.length(); n++) {
                square(text.substring(0, n), -100 - n);
            }
            check.isTrue("it ends just in time", Check.lay(new StatueSquare(), text) > 0);
        }
    }

    private static void goesOnTooLong() {
        check.about("the first code with which no TEXT goes on (behind a whole one)");
        for (char code : "q;.blut159".toCharArray()) {
            square("q12;.." + code, -106);
            square("q12;bl1" + code, -107);
        }
        StatueSquare x = new StatueSquare();
        Check.write(x, 0, 0, "q12;..");
        x.sheet(1, 0, 100);
        x.copy(0, 0, 1, 0, 6);
        due("94 codes more, all 0", x.square(1, 0, 0, 100), -106);
        due("one code more", x.square(1, 0, 0, 7), -106);
        due("just it", x.square(1, 0, 0, 6), 2);
    }

    private static void thirteenthBench() {
        check.about("the b of a thirteenth BENCH");
        square("q27;bbbbbbb;bbbb...", 14);
        square("q27;bbbbbbb;bbbbb..", 14);
        square("q27;bbbbbbb;bbbbbb.", -117);
        square("q27;bbbbbbb;bbbbb.b", -118);
        square("q27;bbbbbbb;bbbbbb", -117);
        square("q27;bbbbbbb;bbbbbl1.", 14);
        square("q67;bbbbbbb;bbbbb..;.......;.......;.......;......b", -150);
        due("twelve", Check.laid("q27;bbbbbbb;bbbbb..").many(2), 12);
    }

    private static void eleventhThing() {
        check.about("the letter of an eleventh THING");
        String nine = "q27;l1u1t1l1u1t1l1;u1t1";
        square(nine + ".....", 14);
        for (char tenth : "lut".toCharArray()) {
            String ten = nine + tenth + "9";
            square(ten + "....", 14);
            due("ten", Check.laid(ten + "....").many(3), 10);
            for (char letter : "lut".toCharArray()) {
                square(ten + letter + "1...", -125);
                square(ten + "..." + letter + "1", -128);
                square(ten + letter, -125);
                square(ten + letter + "0", -125);
            }
            square(ten + "bbbb", 14);
        }
        square(FULL_SQUARE, 42);
        square("q67;bbbbbbb;bbbbb..;l1l2l3l4l5u6u7;u8t9t1...b;.......;.......", -144);
        square("q67;bbbbbbb;bbbbb..;l1l2l3l4l5u6u7;u8t9t1...l1;.......;.......", -144);
    }

    private static void countsBeginAnew() {
        check.about("a thirteenth BENCH, an eleventh THING: of one TEXT");
        StatueSquare x = new StatueSquare();
        due("as many as may be", Check.lay(x, FULL_SQUARE), 42);
        due("once more", Check.lay(x, FULL_SQUARE), 42);
        due("one too many", Check.lay(x, "q27;bbbbbbb;bbbbbb."), -117);
        due("after a faulty one", Check.lay(x, "q27;bbbbbbb;bbbbb.."), 14);
        due("one too many", Check.lay(x, "q27;l1u1t1l1u1t1l1;u1t1l1l1..."), -125);
        due("after a faulty one", Check.lay(x, FULL_SQUARE), 42);
        due("benches", x.many(2), 12);
        due("things", x.many(3), 10);
    }

    private static void kinds() {
        check.about("Kinds of THINGS: 0 LAMP (l); 1 URN (u), a LAMP; 2 TREE (t), an URN");
        StatueSquare x = Check.laid("q13;l1u1t1");
        for (int t = 0; t < 3; t++) {
            due("kind", x.ofThing(t, 0), t);
        }
    }

    private static void numbers() {
        check.about("numbered from 0 on by rows from above, in a row from the left; BENCHES, THINGS likewise");
        StatueSquare x = Check.laid("q32;.b;t1l2;bu3");
        int[] has = {0, 1, 10, 11, 1, 12};
        for (int c = 0; c < 6; c++) {
            due("cell " + c, x.cellHas(c), has[c]);
        }
        due("first bench", x.bench(0), 1);
        due("second bench", x.bench(1), 4);
        due("first thing's cell", x.ofThing(0, 1), 2);
        due("second thing's cell", x.ofThing(1, 1), 3);
        due("third thing's cell", x.ofThing(2, 1), 5);
        due("kinds by cells, not by letters", x.ofThing(0, 0), 2);
        due("third kind", x.ofThing(2, 0), 1);
    }

    // ---- anew

    private static final String TREE_AND_URN = "q14;bt3u3.";

    private static void yearIsAnew() {
        check.about("A TEXT that is taken makes all anew: YEAR 0");
        StatueSquare x = Check.laid(TREE_AND_URN);
        x.year(30, false);
        Check.lay(x, TREE_AND_URN);
        due("year", x.many(4), 0);
        due("tall", x.ofThing(0, 3), 4);
        due("it was 0", x.year(1, false), 0);
    }

    private static void winterIsAnew() {
        check.about("A TEXT that is taken makes all anew: no winter");
        StatueSquare x = Check.laid(TREE_AND_URN);
        x.year(0, true);
        due("urn in winter", x.ofThing(1, 3), 3);
        Check.lay(x, TREE_AND_URN);
        due("urn", x.ofThing(1, 3), 4);
        due("tree", x.ofThing(0, 3), 4);
    }

    private static void nothingIsCutAnew() {
        check.about("A TEXT that is taken makes all anew: nothing CUT");
        StatueSquare x = Check.laid(FULL_SQUARE);
        for (int t = 0; t < 10; t++) {
            x.cut(t, true);
        }
        Check.lay(x, FULL_SQUARE);
        for (int t = 0; t < 10; t++) {
            due("cut", x.ofThing(t, 4), 0);
        }
    }

    private static void pricesAreAnew() {
        check.about("A TEXT that is taken makes all anew: each price 1");
        StatueSquare x = Check.laid(FULL_SQUARE);
        for (int t = 0; t < 10; t++) {
            due("price", x.price(t, 9), 1);
        }
        Check.lay(x, FULL_SQUARE);
        for (int t = 0; t < 10; t++) {
            due("price", x.ofThing(t, 5), 1);
        }
    }

    private static void statueIsAnew() {
        check.about("A TEXT that is taken makes all anew: no STATUE");
        StatueSquare x = Check.laid(TREE_AND_URN);
        x.statue(3, 9);
        Check.lay(x, TREE_AND_URN);
        due("whole", x.whole(), STATE);
        due("it stood nowhere", x.statue(3, 0), NONE);
    }

    private static void cellsAreAnew() {
        check.about("A TEXT that is taken makes all anew");
        StatueSquare x = Check.laid(FULL_SQUARE);
        due("a lesser one", Check.lay(x, "q12;.."), 2);
        int[] many = {2, 2, 0, 0, 0};
        for (int what = 0; what < 5; what++) {
            due("many " + what, x.many(what), many[what]);
        }
        due("no bench there", x.cellHas(0), 0);
        due("two cells", x.cellHas(2), UNKNOWN);
        due("no bench", x.bench(0), UNKNOWN);
        due("no thing", x.ofThing(0, 0), UNKNOWN);
        x.statue(0, 0);
        due("no bench sees it", x.whole(), 0);
        due("no lamp lights it", x.lit(1), 0);
    }

    private static void whatIsNotTakenChangesNothing() {
        check.about("A TEXT that is not taken changes nothing");
        String whole = "q22;l9l9;..";
        for (int n = 0; n < whole.length(); n++) {
            StatueSquare x = Check.laid(TREE_AND_URN);
            x.year(6, true);
            x.cut(1, true);
            x.price(0, 5);
            x.statue(3, 2);
            due("faulty", Check.lay(x, whole.substring(0, n)), -100 - n);
            int[] many = {4, 4, 1, 2, 6};
            for (int what = 0; what < 5; what++) {
                due("many " + what, x.many(what), many[what]);
            }
            int[] has = {1, 10, 11, 0};
            for (int c = 0; c < 4; c++) {
                due("cell", x.cellHas(c), has[c]);
            }
            due("kind", x.ofThing(0, 0), 2);
            due("tall", x.ofThing(0, 3), 2);
            due("price", x.ofThing(0, 5), 5);
            due("cut", x.ofThing(1, 4), 1);
            due("statue", x.statue(3, 0), 3);
        }
        StatueSquare x = new StatueSquare();
        due("faulty", Check.lay(x, "q12;."), -105);
        due("still no square", x.many(1), 0);
        due("still no square", x.year(0, false), STATE);
    }

    private static void cellsOfTheSheet() {
        check.about("A SQUARE by a TEXT of n cells of a SHEET from i on");
        String text = FULL_SQUARE;
        int n = text.length();
        for (int lane = 0; lane < LANES; lane++) {
            StatueSquare x = new StatueSquare();
            x.sheet(3, lane, 100);
            for (int i = 0; i < n; i++) {
                x.put(3, 100 - n + i, text.charAt(i));
            }
            due("up to the last cell", x.square(3, lane, 100 - n, n), 42);
            due("one too few", x.square(3, lane, 100 - n, n - 1), -100 - (n - 1));
            due("one too early", x.square(3, lane, 100 - n - 1, n), -100);
            due("one beyond", x.square(3, lane, 100 - n + 1, n), -13);
            due("the sheet stays", x.cell(3, 100 - n, lane), 'q');
            due("none of them, at the end", x.square(3, lane, 100, 0), -100);
            due("none of them, beyond", x.square(3, lane, 101, 0), -13);
        }
    }

    // ---- TALL now

    private static void tallByKindAndYear() {
        check.about("one more for each 3 whole YEARS (0 .. 30)");
        for (int first = 1; first <= 9; first++) {
            StatueSquare x = Check.laid("q13;l" + first + "u" + first + "t" + first);
            int grown = 0;
            for (int y = 0; y <= 30; y++) {
                grown += y == 3 * (grown + 1) ? 1 : 0;
                x.year(y, false);
                due("lamp", x.ofThing(0, 3), first);
                due("urn", x.ofThing(1, 3), first + 1);
                due("tree in " + y, x.ofThing(2, 3), first + 1 + grown);
                due("at first", x.ofThing(2, 2), first);
            }
            due("ten times by 30", grown, 10);
        }
        StatueSquare x = Check.laid("q12;t1t9");
        int[][] rows = {{0, 2}, {2, 2}, {3, 3}, {5, 3}, {6, 4}, {26, 10}, {27, 11}, {29, 11}, {30, 12}};
        for (int[] row : rows) {
            x.year(row[0], false);
            due("tree of 1 in " + row[0], x.ofThing(0, 3), row[1]);
            due("tree of 9 in " + row[0], x.ofThing(1, 3), row[1] + 8);
        }
    }

    private static void tallInWinter() {
        check.about("one more, if it is no winter; a TREE in winter half of that (cut)");
        for (int first = 1; first <= 9; first++) {
            StatueSquare x = Check.laid("q13;l" + first + "u" + first + "t" + first);
            int twice = first;
            for (int y = 0; y <= 30; y++) {
                twice += y > 0 && y % 3 == 0 ? 1 : 0;
                x.year(y, true);
                due("lamp", x.ofThing(0, 3), first);
                due("urn", x.ofThing(1, 3), first);
                int half = x.ofThing(2, 3);
                check.isTrue("tree in " + y, half + half == twice || half + half + 1 == twice);
            }
        }
        StatueSquare x = Check.laid("q12;t1t2");
        int[][] rows = {{0, 0, 1}, {2, 0, 1}, {3, 1, 1}, {5, 1, 1}, {6, 1, 2}, {8, 1, 2}, {9, 2, 2}, {12, 2, 3},
            {29, 5, 5}, {30, 5, 6}};
        for (int[] row : rows) {
            x.year(row[0], true);
            due("tree of 1 in winter " + row[0], x.ofThing(0, 3), row[1]);
            due("tree of 2 in winter " + row[0], x.ofThing(1, 3), row[2]);
        }
    }

    // ---- the calls

    private static void cellHas() {
        check.about("cellHas: UNKNOWN (there is no such CELL)");
        int[] wides = {2, 7};
        for (int wide : wides) {
            for (int high = 1; high <= 6; high++) {
                StatueSquare x = Check.laid("q" + high + wide + (";" + ".".repeat(wide)).repeat(high));
                due("before", x.cellHas(-1), UNKNOWN);
                due("first", x.cellHas(0), 0);
                due("last", x.cellHas(high * wide - 1), 0);
                due("beyond", x.cellHas(high * wide), UNKNOWN);
            }
        }
        StatueSquare x = Check.laid(FULL_SQUARE);
        due("the last bench", x.cellHas(11), 1);
        due("nothing", x.cellHas(12), 0);
        due("nothing", x.cellHas(13), 0);
        for (int t = 0; t < 10; t++) {
            due("10 and its number", x.cellHas(14 + t), 10 + t);
            x.cut(t, true);
            due("by the TEXT, if CUT too", x.cellHas(14 + t), 10 + t);
        }
        x.statue(12, 0);
        due("by the TEXT, with the STATUE too", x.cellHas(12), 0);
        due("far", x.cellHas(LEAST), UNKNOWN);
        due("far", x.cellHas(MOST), UNKNOWN);
        due("without a SQUARE", new StatueSquare().cellHas(0), UNKNOWN);
    }

    private static void ofThing() {
        check.about("ofThing: UNKNOWN; OUTSIDE");
        StatueSquare x = Check.laid(FULL_SQUARE);
        int[] first = {0, 14, 1, 1, 0, 1};
        int[] last = {2, 23, 1, 2, 0, 1};
        for (int what = 0; what < 6; what++) {
            due("first " + what, x.ofThing(0, what), first[what]);
            due("last " + what, x.ofThing(9, what), last[what]);
            due("before", x.ofThing(-1, what), UNKNOWN);
            due("beyond", x.ofThing(10, what), UNKNOWN);
        }
        int[] wrong = {-1, 6, LEAST, MOST};
        for (int what : wrong) {
            due("what", x.ofThing(0, what), OUTSIDE);
            due("what", x.ofThing(9, what), OUTSIDE);
            due("UNKNOWN is ahead", x.ofThing(10, what), UNKNOWN);
            due("UNKNOWN is ahead", x.ofThing(-1, what), UNKNOWN);
        }
        due("far", x.ofThing(LEAST, 0), UNKNOWN);
        due("far", x.ofThing(MOST, 0), UNKNOWN);
        due("no things", Check.laid("q12;..").ofThing(0, 0), UNKNOWN);
        due("one thing", Check.laid("q12;.l1").ofThing(0, 1), 1);
        due("one thing", Check.laid("q12;.l1").ofThing(1, 1), UNKNOWN);
    }

    private static void bench() {
        check.about("bench: UNKNOWN");
        StatueSquare x = Check.laid(FULL_SQUARE);
        for (int b = 0; b < 12; b++) {
            due("bench " + b, x.bench(b), b);
        }
        due("before", x.bench(-1), UNKNOWN);
        due("beyond", x.bench(12), UNKNOWN);
        due("far", x.bench(LEAST), UNKNOWN);
        due("far", x.bench(MOST), UNKNOWN);
        due("in the last cell", Check.laid("q67" + ";.......".repeat(5) + ";......b").bench(0), 41);
        due("no benches", Check.laid("q12;..").bench(0), UNKNOWN);
    }

    private static void year() {
        check.about("year: y (0 .. 30): which YEAR it was. OUTSIDE; STATE: there is no SQUARE");
        StatueSquare x = Check.laid(TREE_AND_URN);
        due("the last", x.year(30, true), 0);
        due("too late", x.year(31, false), OUTSIDE);
        due("too early", x.year(-1, false), OUTSIDE);
        due("far", x.year(LEAST, false), OUTSIDE);
        due("far", x.year(MOST, false), OUTSIDE);
        due("refused: the year stays", x.many(4), 30);
        due("refused: winter stays", x.ofThing(1, 3), 3);
        due("the first", x.year(0, true), 30);
        due("the same, no winter", x.year(0, false), 0);
        due("no winter", x.ofThing(1, 3), 4);
        due("the same, in winter", x.year(0, true), 0);
        due("winter", x.ofThing(1, 3), 3);
        StatueSquare none = new StatueSquare();
        due("without a SQUARE", none.year(0, false), STATE);
        due("without a SQUARE", none.year(30, true), STATE);
        due("OUTSIDE is ahead", none.year(31, false), OUTSIDE);
        due("OUTSIDE is ahead", none.year(-1, false), OUTSIDE);
        due("no year came", none.many(4), 0);
    }

    private static void cut() {
        check.about("cut: A THING is CUT (true), or grows again: 1; 0: it was so. UNKNOWN");
        StatueSquare x = Check.laid(FULL_SQUARE);
        int[] ends = {0, 9};
        for (int t : ends) {
            due("it was so", x.cut(t, false), 0);
            due("cut", x.cut(t, true), 1);
            due("it was so", x.cut(t, true), 0);
            due("is cut", x.ofThing(t, 4), 1);
            for (int other = 1; other < 9; other++) {
                due("others are not", x.ofThing(other, 4), 0);
            }
            due("grows again", x.cut(t, false), 1);
            due("is not cut", x.ofThing(t, 4), 0);
        }
        due("before", x.cut(-1, true), UNKNOWN);
        due("beyond", x.cut(10, true), UNKNOWN);
        due("far", x.cut(LEAST, false), UNKNOWN);
        due("far", x.cut(MOST, false), UNKNOWN);
        due("32 on: no THING", x.cut(32, true), UNKNOWN);
        due("none is cut", x.ofThing(0, 4), 0);
        due("without a SQUARE", new StatueSquare().cut(0, false), UNKNOWN);
    }

    private static void price() {
        check.about("price: v (1 .. 9): what it was. UNKNOWN; OUTSIDE");
        StatueSquare x = Check.laid(FULL_SQUARE);
        int[] ends = {0, 9};
        for (int t : ends) {
            due("to 9", x.price(t, 9), 1);
            due("to 10", x.price(t, 10), OUTSIDE);
            due("to 1", x.price(t, 1), 9);
            due("to 0", x.price(t, 0), OUTSIDE);
            due("far", x.price(t, LEAST), OUTSIDE);
            due("far", x.price(t, MOST), OUTSIDE);
            due("refused: it stays", x.ofThing(t, 5), 1);
        }
        due("before", x.price(-1, 1), UNKNOWN);
        due("beyond", x.price(10, 9), UNKNOWN);
        due("UNKNOWN is ahead", x.price(10, 0), UNKNOWN);
        due("UNKNOWN is ahead", x.price(-1, 10), UNKNOWN);
        due("without a SQUARE", new StatueSquare().price(0, 1), UNKNOWN);
    }
}
