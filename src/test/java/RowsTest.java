/** Promises 17 to 22: lines of sheets, places of banks. */
public final class RowsTest {
    private static final Due DUE = new Due("RowsTest");
    private static final int UNKNOWN = -101, NULL = -11, INDEX = -12, CAST = -13, STORE = -14;
    private static final int[] NO_BOXES = {-1, 24, Integer.MIN_VALUE, Integer.MAX_VALUE};
    private static final int[] NO_PLACES = {-1, 3, Integer.MIN_VALUE, Integer.MAX_VALUE};

    public static void main(String[] args) {
        linesAndRules();
        linesRefused();
        lays();
        layRefused();
        sets();
        setKinds();
        setRefused();
        gets();
        takes();
        DUE.end();
    }

    private static void linesAndRules() {
        PatchAsks x = new PatchAsks();
        x.sheet(0, 3, 3);
        for (int i = 0; i < 3; i++) {
            for (int k = 0; k < 3; k++) DUE.is("rule", x.rule(0, i, k, 10 * i + k - 11), 0);
        }
        DUE.is("rule changes no SEEN", x.seen(), 0);
        for (int i = 0; i < 3; i++) {
            for (int k = 0; k < 3; k++) {
                DUE.is("line", x.line(0, i, k), 0);
                DUE.is("line: seen", x.seen(), 10 * i + k - 11);
            }
        }
        x.rule(0, 2, 2, Integer.MIN_VALUE);
        x.line(0, 2, 2);
        DUE.is("the least int", x.seen(), Integer.MIN_VALUE);
    }

    private static void linesRefused() {
        PatchAsks x = new PatchAsks();
        x.sheet(0, 3, 3);
        x.lay(0, 1, 9);
        x.curve(1, 4, 3);
        x.bank(2, 0, 3);
        x.voice(3, 0);
        for (int i : NO_PLACES) {
            lineIs(x, 0, i, 9, INDEX);
            lineIs(x, 0, 0, i, INDEX);
            lineIs(x, 0, 1, i, NULL);
        }
        lineIs(x, 0, 1, 0, NULL);
        for (int b = 1; b <= 3; b++) lineIs(x, b, 9, 9, CAST);
        lineIs(x, 9, 9, 9, NULL);
        for (int b : NO_BOXES) lineIs(x, b, 9, 9, UNKNOWN);
        DUE.is("no line was seen", x.seen(), 0);
    }

    private static void lineIs(PatchAsks x, int b, int i, int k, int want) {
        String at = "(" + b + ", " + i + ", " + k + ")";
        DUE.is("line" + at, x.line(b, i, k), want);
        DUE.is("rule" + at, x.rule(b, i, k, 5), want);
    }

    private static void lays() {
        PatchAsks x = new PatchAsks();
        x.sheet(0, 2, 1);
        x.curve(1, 4, 16);
        x.write(1, 4, 15, 6);
        DUE.is("lay", x.lay(0, 1, 1), 0);
        x.line(0, 1, 15);
        DUE.is("the curve's row", x.seen(), 6);
        x.rule(0, 1, 15, 8);
        x.read(1, 4, 15);
        DUE.is("the very same, by rule", x.seen(), 8);
        x.write(1, 4, 0, -4);
        x.line(0, 1, 0);
        DUE.is("the very same, by write", x.seen(), -4);
        x.lay(0, 0, 1);
        x.rule(0, 0, 3, 33);
        x.line(0, 1, 3);
        DUE.is("one row on two lines", x.seen(), 33);
        x.grow(1, 16);
        x.write(1, 4, 0, 99);
        x.line(0, 1, 0);
        DUE.is("grow made another row", x.seen(), -4);
        x.clear(1);
        x.line(0, 1, 0);
        DUE.is("the line keeps its row", x.seen(), -4);
        DUE.is("lay nothing", x.lay(0, 1, 1), 0);
        DUE.is("a line of nothing", x.line(0, 1, 0), NULL);
        DUE.is("the other is there", x.line(0, 0, 0), 0);
        x.share(0, 2);
        x.rule(2, 0, 0, 1);
        x.line(0, 0, 0);
        DUE.is("a shared sheet", x.seen(), 1);
    }

    private static void layRefused() {
        PatchAsks x = new PatchAsks();
        x.sheet(0, 3, 3);
        x.curve(1, 4, 3);
        x.curve(2, 5, 3);
        x.voice(3, 0);
        x.bank(4, 0, 3);
        DUE.is("lay on a curve", x.lay(1, 9, 1), CAST);
        DUE.is("lay on a bank", x.lay(4, 0, 9), CAST);
        DUE.is("lay longs", x.lay(0, 9, 2), CAST);
        DUE.is("lay a voice", x.lay(0, 9, 3), CAST);
        DUE.is("lay a sheet", x.lay(0, 9, 0), CAST);
        DUE.is("lay longs on nothing", x.lay(9, 9, 2), CAST);
        DUE.is("lay on nothing", x.lay(9, 9, 1), NULL);
        DUE.is("lay nothing on nothing", x.lay(9, 9, 9), NULL);
        for (int i : NO_PLACES) {
            DUE.is("lay at " + i, x.lay(0, i, 1), INDEX);
            DUE.is("lay nothing at " + i, x.lay(0, i, 9), INDEX);
        }
        for (int b : NO_BOXES) {
            DUE.is("lay, no box b", x.lay(b, 0, 2), UNKNOWN);
            DUE.is("lay, no box c", x.lay(1, 0, b), UNKNOWN);
        }
    }

    private static void sets() {
        PatchAsks x = new PatchAsks();
        x.bank(0, 6, 3);
        x.voice(1, 0);
        x.voice(2, 5);
        DUE.is("set", x.set(0, 0, 2), 0);
        DUE.is("set is there", x.get(0, 0), 1);
        DUE.is("set another", x.set(0, 0, 1), 0);
        DUE.is("the other is there", x.get(0, 0), 0);
        DUE.is("set the same twice", x.set(0, 2, 1), 0);
        DUE.is("twice there", x.get(0, 2), 0);
        DUE.is("set nothing", x.set(0, 0, 9), 0);
        DUE.is("nothing there", x.get(0, 0), -1);
        x.clear(1);
        DUE.is("a place keeps its voice", x.get(0, 2), 0);
    }

    private static void setKinds() {
        for (int of = 0; of <= 6; of++) {
            PatchAsks x = new PatchAsks();
            x.bank(0, of, 1);
            for (int kind = 0; kind <= 5; kind++) {
                int number = x.voice(1, kind);
                x.set(0, 0, 9);
                int want = x.is(1, 20 + of) == 1 ? 0 : STORE;
                DUE.is("kind " + kind + " in a bank of " + of, x.set(0, 0, 1), want);
                DUE.is("what is there", x.get(0, 0), want == 0 ? number : -1);
            }
        }
        PatchAsks x = new PatchAsks();
        x.bank(0, 1, 1);
        x.voice(1, 2);
        DUE.is("a CHIME is a BELL", x.set(0, 0, 1), 0);
        x.voice(1, 0);
        DUE.is("a TONE is no BELL", x.set(0, 0, 1), STORE);
        DUE.is("the CHIME stays", x.get(0, 0), 0);
        x.voice(1, 5);
        DUE.is("a DRUM is no BELL", x.set(0, 0, 1), STORE);
        DUE.is("INDEX ahead of STORE", x.set(0, 1, 1), INDEX);
        x.bank(0, 3, 1);
        DUE.is("a DRUM is a NOISE", x.set(0, 0, 1), 0);
    }

    private static void setRefused() {
        PatchAsks x = new PatchAsks();
        x.bank(0, 0, 3);
        x.voice(1, 0);
        x.curve(2, 4, 3);
        x.sheet(3, 3, 3);
        DUE.is("set in a sheet", x.set(3, 9, 1), CAST);
        DUE.is("set in a voice", x.set(1, 0, 9), CAST);
        DUE.is("set a curve", x.set(0, 9, 2), CAST);
        DUE.is("set a bank", x.set(0, 9, 0), CAST);
        DUE.is("set a curve in nothing", x.set(9, 9, 2), CAST);
        DUE.is("set in nothing", x.set(9, 9, 1), NULL);
        DUE.is("set nothing in nothing", x.set(9, 0, 9), NULL);
        for (int i : NO_PLACES) {
            DUE.is("set at " + i, x.set(0, i, 1), INDEX);
            DUE.is("set nothing at " + i, x.set(0, i, 9), INDEX);
        }
        for (int b : NO_BOXES) {
            DUE.is("set, no box b", x.set(b, 0, 2), UNKNOWN);
            DUE.is("set, no box c", x.set(2, 0, b), UNKNOWN);
        }
    }

    private static void gets() {
        PatchAsks x = new PatchAsks();
        x.bank(0, 0, 3);
        x.curve(1, 4, 3);
        x.voice(2, 0);
        x.voice(3, 0);
        x.set(0, 2, 3);
        DUE.is("get", x.get(0, 2), 1);
        DUE.is("get nothing", x.get(0, 0), -1);
        DUE.is("get changes no SEEN", x.seen(), 0);
        for (int i : NO_PLACES) DUE.is("get at " + i, x.get(0, i), INDEX);
        DUE.is("get of a curve", x.get(1, 9), CAST);
        DUE.is("get of a voice", x.get(2, 9), CAST);
        DUE.is("get of nothing", x.get(9, 9), NULL);
        for (int b : NO_BOXES) DUE.is("get, no box", x.get(b, 0), UNKNOWN);
    }

    private static void takes() {
        PatchAsks x = new PatchAsks();
        x.bank(0, 0, 3);
        x.voice(1, 0);
        x.voice(2, 2);
        x.set(0, 1, 2);
        DUE.is("take", x.take(0, 1, 5), 1);
        DUE.is("taken", x.what(5), 22);
        x.raise(5, 1, 40);
        x.level(2, 1);
        DUE.is("the very same voice", x.seen(), 40);
        DUE.is("it is still there", x.get(0, 1), 1);
        DUE.is("take nothing", x.take(0, 0, 5), -1);
        DUE.is("nothing is held", x.what(5), -1);
        x.curve(6, 4, 3);
        for (int i : NO_PLACES) DUE.is("take at " + i, x.take(0, i, 6), INDEX);
        DUE.is("take of a curve", x.take(6, 9, 6), CAST);
        DUE.is("take of nothing", x.take(9, 9, 6), NULL);
        DUE.is("kept", x.what(6), 4);
        for (int b : NO_BOXES) {
            DUE.is("take, no box b", x.take(b, 0, 6), UNKNOWN);
            DUE.is("take, no box c", x.take(6, 9, b), UNKNOWN);
        }
        DUE.is("take into the bank's own box", x.take(0, 1, 0), 1);
        DUE.is("the bank is gone", x.what(0), 22);
    }
}
