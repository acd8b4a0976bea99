/** Counts answers, prints those that are not due, and ends the test. */
final class Check {
    private static final int INTS = 2;
    private static final int MOST_PRINTED = 40;

    private String about = "";
    private int calls = 0;
    private int wrong = 0;

    void about(String what) {
        about = what;
    }

    void due(String call, long got, long want) {
        calls++;
        if (got == want) {
            return;
        }
        wrong++;
        if (wrong <= MOST_PRINTED) {
            System.out.println(about + ": " + call + " answered " + got + ", due is " + want);
        }
    }

    void isTrue(String what, boolean holds) {
        due(what, holds ? 1 : 0, 1);
    }

    void end() {
        System.out.println(calls + " answers, " + wrong + " not as due");
        if (wrong != 0 || calls == 0) {
            System.exit(1);
        }
    }

    /** Lays a SQUARE by a TEXT through SHEET 3, as ints. */
    static int lay(StatueSquare x, String text) {
        write(x, 3, INTS, text);
        return x.square(3, INTS, 0, text.length());
    }

    static void write(StatueSquare x, int sheet, int lane, String text) {
        x.sheet(sheet, lane, text.length());
        for (int i = 0; i < text.length(); i++) {
            x.put(sheet, i, text.charAt(i));
        }
    }

    static StatueSquare laid(String text) {
        StatueSquare x = new StatueSquare();
        int cells = lay(x, text);
        if (cells < 1) {
            throw new IllegalStateException("no TEXT: " + text);
        }
        return x;
    }
}
