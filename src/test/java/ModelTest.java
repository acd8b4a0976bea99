import java.util.Random;

/** Long runs of calls, told by a seed, on StatueSquare and on the Model: every answer must be the same. */
public final class ModelTest {
    private static final int RUNS = 6000;
    private static final int CALLS = 512;
    private static final int[] FAR = {
        Integer.MIN_VALUE, Integer.MIN_VALUE + 1, -129, -101, -12, -10, -9, -2, -1,
        12, 13, 30, 31, 32, 41, 42, 43, 63, 64, 99, 100, 101, 127, 4096, Integer.MAX_VALUE - 1, Integer.MAX_VALUE};

    private static final Check check = new Check();

    private final Random random;
    private final StatueSquare x = new StatueSquare();
    private final Model model = new Model();
    private int calls = 0;

    private ModelTest(long seed) {
        random = new Random(seed);
    }

    public static void main(String[] args) {
        for (int seed = 0; seed < RUNS; seed++) {
            check.about("run " + seed);
            new ModelTest(seed).run();
        }
        check.end();
    }

    private void run() {
        // Some runs begin without a SQUARE.
        if (random.nextInt(5) > 0) {
            lay(text());
        }
        while (calls < CALLS) {
            oneCall();
        }
    }

    private void due(String call, long got, long want) {
        calls++;
        // What later calls answer is free.
        if (calls <= CALLS) {
            check.due("call " + calls + ", " + call, got, want);
        }
    }

    /** Mostly from least to most, now and then far off. */
    private int near(int least, int most) {
        if (random.nextInt(24) == 0) {
            return FAR[random.nextInt(FAR.length)];
        }
        return least + random.nextInt(most - least + 1);
    }

    private String text() {
        int high = 1 + random.nextInt(6);
        int wide = 2 + random.nextInt(6);
        StringBuilder text = new StringBuilder("q").append(high).append(wide);
        int things = random.nextInt(4) == 0 ? 11 : random.nextInt(11);
        int benches = random.nextInt(4) == 0 ? 13 : random.nextInt(13);
        int density = 2 + random.nextInt(5);
        for (int c = 0; c < high * wide; c++) {
            if (c % wide == 0) {
                text.append(';');
            }
            int pick = random.nextInt(2 * density);
            if (pick == 0 && benches > 0) {
                text.append('b');
                benches--;
            } else if ((pick == 1 || pick == 2) && things > 0) {
                text.append("lut".charAt(random.nextInt(3))).append(1 + random.nextInt(9));
                things--;
            } else {
                text.append('.');
            }
        }
        return text.toString();
    }

    private String spoiled(String text) {
        StringBuilder changed = new StringBuilder(text);
        int at = random.nextInt(text.length());
        switch (random.nextInt(4)) {
            case 0: changed.setLength(at); break;
            case 1: changed.deleteCharAt(at); break;
            case 2: changed.insert(at, "q.;blut0189".charAt(random.nextInt(11))); break;
            default: changed.setCharAt(at, "q.;blut0189".charAt(random.nextInt(11))); break;
        }
        return changed.toString();
    }

    private void lay(String text) {
        int k = random.nextInt(4);
        int lane = random.nextInt(3);
        int ahead = random.nextInt(5);
        due("sheet", x.sheet(k, lane, text.length() + ahead), model.sheet(k, lane, text.length() + ahead));
        for (int i = 0; i < text.length(); i++) {
            due("put", x.put(k, ahead + i, text.charAt(i)), model.put(k, ahead + i, text.charAt(i)));
        }
        due("square of " + text, x.square(k, lane, ahead, text.length()), model.square(k, lane, ahead, text.length()));
        due("fault", x.fault(), model.fault());
    }

    private void oneCall() {
        int kind = random.nextInt(100);
        if (kind < 60) {
            squareCall();
        } else if (kind < 99) {
            sheetCall();
        } else {
            lay(random.nextBoolean() ? text() : spoiled(text()));
        }
    }

    private void squareCall() {
        int t = near(0, Math.max(0, model.many(3)));
        int b = near(0, Math.max(0, model.many(2)));
        int c = near(0, Math.max(0, model.many(0)));
        int what = near(0, 2);
        int v = near(0, 10);
        boolean flag = random.nextBoolean();
        String told = "(t " + t + ", b " + b + ", c " + c + ", what " + what + ", v " + v + ", " + flag + ")";
        switch (random.nextInt(21)) {
            case 0: due("cellHas" + told, x.cellHas(c), model.cellHas(c)); break;
            case 1: due("ofThing" + told, x.ofThing(t, v - 2), model.ofThing(t, v - 2)); break;
            case 2: due("bench" + told, x.bench(b), model.bench(b)); break;
            case 3: int y = near(0, 31); due("year " + y, x.year(y, flag), model.year(y, flag)); break;
            case 4: due("cut" + told, x.cut(t, flag), model.cut(t, flag)); break;
            case 5: due("price" + told, x.price(t, v), model.price(t, v)); break;
            case 6: case 7: due("statue" + told, x.statue(c, v), model.statue(c, v)); break;
            case 8: due("seen" + told, x.seen(b), model.seen(b)); break;
            case 9: due("whole", x.whole(), model.whole()); break;
            case 10: due("hidden" + told, x.hidden(b), model.hidden(b)); break;
            case 11: due("sight" + told, x.sight(what), model.sight(what)); break;
            case 12: due("best" + told, x.best(v, what), model.best(v, what)); break;
            case 13: due("block" + told, x.block(c, what), model.block(c, what)); break;
            case 14: due("cuts" + told, x.cuts(what), model.cuts(what)); break;
            case 15: due("complaints", x.complaints(), model.complaints()); break;
            case 16: movedCall(); break;
            case 17: due("years", x.years(), model.years()); break;
            case 18: due("second", x.second(), model.second()); break;
            case 19: due("lit" + told, x.lit(what), model.lit(what)); break;
            default: due("many" + told, x.many(v - 2), model.many(v - 2)); break;
        }
    }

    private void movedCall() {
        int now = Math.max(0, model.complaints());
        int told = near(0, 2) == 0 ? now : now & ~(1 << random.nextInt(12));
        if (random.nextInt(8) == 0) {
            told = near(-1, 5000);
        }
        due("moved " + told, x.moved(told), model.moved(told));
    }

    private void sheetCall() {
        int k = near(0, 3);
        int other = near(0, 3);
        int lane = near(0, 2);
        int i = near(-1, 8);
        int j = near(-1, 8);
        int n = near(-1, 8);
        int t = near(0, Math.max(0, model.many(3)));
        String told = "(k " + k + ", other " + other + ", lane " + lane
            + ", i " + i + ", j " + j + ", n " + n + ", t " + t + ")";
        switch (random.nextInt(11)) {
            case 0: due("sheet" + told, x.sheet(k, lane, n), model.sheet(k, lane, n)); break;
            case 1: due("lose" + told, x.lose(k), model.lose(k)); break;
            case 2: int v = random.nextInt(); due("put" + told, x.put(k, i, v), model.put(k, i, v)); break;
            case 3: case 4: due("cell" + told, x.cell(k, i, lane), model.cell(k, i, lane)); break;
            case 5: case 6: due("copy" + told, x.copy(k, i, other, j, n), model.copy(k, i, other, j, n)); break;
            case 7: due("square" + told, x.square(k, lane, i, n), model.square(k, lane, i, n)); break;
            case 8: due("tell" + told, x.tell(t), model.tell(t)); break;
            case 9: due("tend" + told, x.tend(t), model.tend(t)); break;
            default: due("as" + told, x.as(t, lane), model.as(t, lane)); break;
        }
        due("fault after" + told, x.fault(), model.fault());
        due("trace after" + told, x.trace(), model.trace());
    }
}
