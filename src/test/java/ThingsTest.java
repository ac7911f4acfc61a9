/** Promises 1 to 10: a new object, what boxes hold, and what that is. */
public final class ThingsTest {
    private static final Due DUE = new Due("ThingsTest");
    private static final int UNKNOWN = -101, OUTSIDE = -102, FULL = -104, NULL = -11, CAST = -13, SIZE = -15;
    private static final int[] NO_BOXES = {-1, 24, Integer.MIN_VALUE, Integer.MAX_VALUE};

    public static void main(String[] args) {
        newObject();
        curves();
        sheets();
        banks();
        voices();
        fullOfVoices();
        shares();
        clears();
        whats();
        isCurveOrSheet();
        isBank();
        isVoice();
        isOutside();
        widths();
        DUE.end();
    }

    private static void newObject() {
        PatchAsks x = new PatchAsks();
        for (int b = 0; b < 24; b++) DUE.is("new: what(" + b + ")", x.what(b), -1);
        DUE.is("new: voices", x.about(0), 0);
        DUE.is("new: trace", x.about(1), 0);
        DUE.is("new: boxes", x.about(2), 0);
        DUE.is("new: turns", x.about(3), 0);
        DUE.is("new: seen", x.seen(), 0);
        DUE.is("new: finding", x.finding(), 0);
    }

    private static void curves() {
        for (int lane = 0; lane <= 7; lane++) {
            PatchAsks x = new PatchAsks();
            DUE.is("curve of 16", x.curve(23, lane, 16), 16);
            DUE.is("curve is there", x.what(23), lane);
            for (int i = 0; i < 16; i++) {
                DUE.is("curve read", x.read(23, lane, i), 0);
                DUE.is("curve is all 0", x.seen(), 0);
            }
            DUE.is("curve of 0", x.curve(23, lane, 0), 0);
            DUE.is("curve of 0 width", x.width(23, lane), 0);
            DUE.is("curve of 17", x.curve(23, lane, 17), OUTSIDE);
            DUE.is("curve of -1", x.curve(23, lane, -1), SIZE);
            DUE.is("curve of least", x.curve(23, lane, Integer.MIN_VALUE), SIZE);
            DUE.is("curve left as it was", x.width(23, lane), 0);
        }
        PatchAsks x = new PatchAsks();
        for (int b : NO_BOXES) DUE.is("curve, no box", x.curve(b, 9, 17), UNKNOWN);
        DUE.is("curve, lane 8", x.curve(0, 8, -1), OUTSIDE);
        DUE.is("curve, lane -1", x.curve(0, -1, 3), OUTSIDE);
        DUE.is("curve, refused", x.what(0), -1);
        DUE.is("curve, no finding", x.finding(), 0);
    }

    private static void sheets() {
        PatchAsks x = new PatchAsks();
        DUE.is("sheet 8 x 8", x.sheet(0, 8, 8), 8);
        DUE.is("sheet is there", x.what(0), 8);
        DUE.is("sheet last int", x.line(0, 7, 7), 0);
        DUE.is("sheet all 0", x.seen(), 0);
        DUE.is("sheet no int 8", x.line(0, 7, 8), -12);
        x.rule(0, 0, 0, 5);
        x.line(0, 1, 0);
        DUE.is("sheet's lines are apart", x.seen(), 0);
        DUE.is("sheet 3 x 0", x.sheet(1, 3, 0), 3);
        DUE.is("sheet line of none", x.line(1, 0, 0), -12);
        DUE.is("sheet 0 x 3", x.sheet(1, 0, 3), 0);
        DUE.is("sheet of no lines", x.width(1, 8), 0);
        DUE.is("sheet n 9", x.sheet(1, 9, 1), OUTSIDE);
        DUE.is("sheet m 9", x.sheet(1, 1, 9), OUTSIDE);
        DUE.is("sheet m -1", x.sheet(1, 1, -1), OUTSIDE);
        DUE.is("sheet m -1 ahead of n -1", x.sheet(1, -1, -1), OUTSIDE);
        DUE.is("sheet n -1", x.sheet(1, -1, 0), SIZE);
        DUE.is("sheet kept", x.width(1, 8), 0);
        for (int b : NO_BOXES) DUE.is("sheet, no box", x.sheet(b, 9, -1), UNKNOWN);
    }

    private static void banks() {
        PatchAsks x = new PatchAsks();
        for (int kind = 0; kind <= 6; kind++) {
            DUE.is("bank", x.bank(kind, kind, 8), 8);
            DUE.is("bank is there", x.what(kind), 10 + kind);
            for (int i = 0; i < 8; i++) DUE.is("bank is empty", x.get(kind, i), -1);
        }
        DUE.is("bank of 0", x.bank(9, 6, 0), 0);
        DUE.is("bank kind 7", x.bank(9, 7, -1), OUTSIDE);
        DUE.is("bank kind -1", x.bank(9, -1, 2), OUTSIDE);
        DUE.is("bank n 9", x.bank(9, 0, 9), OUTSIDE);
        DUE.is("bank n -1", x.bank(9, 0, -1), SIZE);
        DUE.is("bank kept", x.what(9), 16);
        for (int b : NO_BOXES) DUE.is("bank, no box", x.bank(b, 7, 9), UNKNOWN);
    }

    private static void voices() {
        PatchAsks x = new PatchAsks();
        for (int kind = 0; kind <= 5; kind++) {
            DUE.is("voice", x.voice(3, kind), kind);
            DUE.is("voice is there", x.what(3), 20 + kind);
            DUE.is("voice's level", x.level(3, 0), 0);
            DUE.is("voice's level is 0", x.seen(), 0);
            DUE.is("voice has no trouble", x.fail(3), NULL);
        }
        DUE.is("voice kind 6", x.voice(3, 6), OUTSIDE);
        DUE.is("voice kind -1", x.voice(3, -1), OUTSIDE);
        for (int b : NO_BOXES) DUE.is("voice, no box", x.voice(b, 6), UNKNOWN);
        DUE.is("voices counted", x.about(0), 6);
        DUE.is("voice kept", x.what(3), 25);
    }

    private static void fullOfVoices() {
        PatchAsks x = new PatchAsks();
        for (int k = 0; k < 40; k++) DUE.is("voice " + k, x.voice(k % 24, k % 6), k);
        DUE.is("voice 40", x.voice(0, 0), FULL);
        DUE.is("OUTSIDE ahead of FULL", x.voice(0, 6), OUTSIDE);
        DUE.is("UNKNOWN ahead of FULL", x.voice(24, 0), UNKNOWN);
        x.clear(0);
        DUE.is("still full", x.voice(0, 0), FULL);
        DUE.is("nothing came", x.what(0), -1);
        DUE.is("40 made", x.about(0), 40);
    }

    private static void shares() {
        PatchAsks x = new PatchAsks();
        x.curve(0, 4, 2);
        DUE.is("share", x.share(0, 23), 4);
        x.write(23, 4, 1, 9);
        x.read(0, 4, 1);
        DUE.is("one thing in two boxes", x.seen(), 9);
        DUE.is("share with itself", x.share(0, 0), 4);
        DUE.is("share nothing", x.share(5, 0), -1);
        DUE.is("nothing is held then", x.what(0), -1);
        DUE.is("the other box keeps it", x.what(23), 4);
        x.voice(1, 5);
        DUE.is("share a voice", x.share(1, 2), 25);
        x.bank(1, 3, 2);
        DUE.is("the shared voice stays", x.what(2), 25);
        for (int b : NO_BOXES) {
            DUE.is("share, no box b", x.share(b, 0), UNKNOWN);
            DUE.is("share, no box c", x.share(23, b), UNKNOWN);
        }
    }

    private static void clears() {
        PatchAsks x = new PatchAsks();
        DUE.is("clear nothing", x.clear(0), -1);
        x.sheet(0, 1, 1);
        x.share(0, 1);
        DUE.is("clear a sheet", x.clear(0), 8);
        DUE.is("cleared", x.what(0), -1);
        DUE.is("the other is not", x.what(1), 8);
        x.bank(0, 6, 1);
        DUE.is("clear a bank", x.clear(0), 16);
        for (int b : NO_BOXES) DUE.is("clear, no box", x.clear(b), UNKNOWN);
    }

    private static void whats() {
        PatchAsks x = new PatchAsks();
        for (int lane = 0; lane <= 7; lane++) {
            x.curve(0, lane, 0);
            DUE.is("what, curve", x.what(0), lane);
        }
        x.sheet(0, 0, 0);
        DUE.is("what, sheet", x.what(0), 8);
        for (int b : NO_BOXES) DUE.is("what, no box", x.what(b), UNKNOWN);
    }

    private static void isCurveOrSheet() {
        for (int held = 0; held <= 8; held++) {
            PatchAsks x = new PatchAsks();
            if (held == 8) x.sheet(0, 1, 1);
            else x.curve(0, held, 1);
            for (int q = 0; q <= 32; q++) {
                boolean asked = q <= 8 || q >= 10 && q <= 16 || q >= 20 && q <= 26 || q >= 30;
                DUE.is("what " + held + ", is " + q, x.is(0, q), !asked ? OUTSIDE : q == held ? 1 : 0);
            }
        }
    }

    // row: what is there; column: the kind that is asked for
    private static final int[][] SUCH = {
        {1, 0, 0, 0, 0, 0, 1},
        {1, 1, 0, 0, 0, 0, 1},
        {1, 1, 1, 0, 0, 0, 1},
        {0, 0, 0, 1, 0, 0, 1},
        {0, 0, 0, 1, 1, 0, 1},
        {0, 0, 0, 1, 0, 1, 1},
        {0, 0, 0, 0, 0, 0, 1},
    };
    private static final int[] HEARD = {1, 1, 1, 0, 0, 1, 0};

    private static void isBank() {
        for (int kind = 0; kind <= 6; kind++) {
            PatchAsks x = new PatchAsks();
            x.bank(0, kind, 0);
            for (int q = 0; q <= 6; q++) {
                DUE.is("bank " + kind + " of kind " + q, x.is(0, 10 + q), SUCH[kind][q]);
                DUE.is("bank is no voice", x.is(0, 20 + q), 0);
                DUE.is("bank is no curve", x.is(0, q), 0);
            }
            DUE.is("bank " + kind + " heard", x.is(0, 32), HEARD[kind]);
            DUE.is("bank is no heard voice", x.is(0, 30), 0);
            DUE.is("bank is not compared", x.is(0, 31), 0);
            DUE.is("bank is no sheet", x.is(0, 8), 0);
        }
    }

    private static void isVoice() {
        for (int kind = 0; kind <= 5; kind++) {
            PatchAsks x = new PatchAsks();
            x.voice(0, kind);
            for (int q = 0; q <= 6; q++) {
                DUE.is("voice " + kind + " of kind " + q, x.is(0, 20 + q), SUCH[kind][q]);
                DUE.is("voice is no bank", x.is(0, 10 + q), 0);
                DUE.is("voice is no curve", x.is(0, q), 0);
            }
            DUE.is("voice " + kind + " heard", x.is(0, 30), HEARD[kind]);
            DUE.is("voice is no heard bank", x.is(0, 32), 0);
            DUE.is("voice is not compared", x.is(0, 31), 0);
        }
    }

    private static void isOutside() {
        PatchAsks x = new PatchAsks();
        for (int q : new int[] {-1, 9, 17, 18, 19, 27, 28, 29, 33, Integer.MIN_VALUE, Integer.MAX_VALUE}) {
            DUE.is("is " + q, x.is(0, q), OUTSIDE);
            for (int b : NO_BOXES) DUE.is("is, no box", x.is(b, q), UNKNOWN);
        }
        for (int q : new int[] {0, 7, 8, 10, 16, 20, 26, 30, 31, 32}) DUE.is("nothing is " + q, x.is(0, q), 0);
        DUE.is("is has no findings", x.finding(), 0);
    }

    private static void widths() {
        PatchAsks x = new PatchAsks();
        for (int lane = 0; lane <= 7; lane++) x.curve(lane, lane, lane + 3);
        x.sheet(8, 5, 2);
        x.bank(9, 2, 6);
        x.voice(10, 0);
        for (int b = 0; b <= 10; b++) {
            for (int sort = 0; sort <= 9; sort++) {
                int want = b != sort ? CAST : b == 8 ? 5 : b == 9 ? 6 : b + 3;
                DUE.is("width(" + b + ", " + sort + ")", x.width(b, sort), want);
            }
        }
        for (int sort = 0; sort <= 9; sort++) DUE.is("width of nothing", x.width(11, sort), NULL);
        DUE.is("width sort 10", x.width(11, 10), OUTSIDE);
        DUE.is("width sort -1", x.width(0, -1), OUTSIDE);
        for (int b : NO_BOXES) DUE.is("width, no box", x.width(b, 10), UNKNOWN);
    }
}
