/** Promises 23 to 28, and the bodies. */
public final class VoicesTest {
    private static final Due DUE = new Due("VoicesTest");
    private static final int UNKNOWN = -101, OUTSIDE = -102, NULL = -11, CAST = -13, TROUBLE = -17;
    private static final int[] NO_BOXES = {-1, 24, Integer.MIN_VALUE, Integer.MAX_VALUE};

    public static void main(String[] args) {
        levels();
        levelsRefused();
        colours();
        strengths();
        plays();
        heards();
        editsAndNumbers();
        asksWrap();
        askRefused();
        turns();
        turnRefused();
        troubles();
        DUE.end();
    }

    private static final boolean[][] HAS = {
        {true, false, false}, {true, true, false}, {true, true, false},
        {true, false, false}, {true, false, false}, {true, false, true},
    };

    private static void levels() {
        for (int kind = 0; kind <= 5; kind++) {
            PatchAsks x = new PatchAsks();
            x.voice(0, kind);
            for (int as = 0; as <= 2; as++) {
                int want = HAS[kind][as] ? 0 : CAST;
                DUE.is("raise kind " + kind + " as " + as, x.raise(0, as, 100 + as), want);
                DUE.is("raise changes no SEEN", x.seen(), 0);
            }
            for (int as = 0; as <= 2; as++) {
                x.ask(0, 5);
                DUE.is("level kind " + kind + " as " + as, x.level(0, as), HAS[kind][as] ? 0 : CAST);
                DUE.is("each is its own", x.seen(), HAS[kind][as] ? 100 + as : 0);
            }
        }
    }

    private static void levelsRefused() {
        PatchAsks x = new PatchAsks();
        x.curve(0, 4, 1);
        x.bank(1, 0, 1);
        for (int as = 0; as <= 2; as++) {
            for (int b = 0; b <= 1; b++) {
                DUE.is("level of no voice", x.level(b, as), CAST);
                DUE.is("raise of no voice", x.raise(b, as, 1), CAST);
            }
            DUE.is("level of nothing", x.level(9, as), NULL);
            DUE.is("raise of nothing", x.raise(9, as, 1), NULL);
        }
        for (int as : new int[] {-1, 3, Integer.MIN_VALUE, Integer.MAX_VALUE}) {
            DUE.is("level as " + as, x.level(9, as), OUTSIDE);
            DUE.is("raise as " + as, x.raise(0, as, 1), OUTSIDE);
            for (int b : NO_BOXES) {
                DUE.is("level, no box", x.level(b, as), UNKNOWN);
                DUE.is("raise, no box", x.raise(b, as, 1), UNKNOWN);
            }
        }
    }

    /** A voice of each kind in boxes 0 to 5, with LEVEL 5, OWN LEVEL 7 or SKIN 4. */
    private static PatchAsks six() {
        PatchAsks x = new PatchAsks();
        for (int kind = 0; kind <= 5; kind++) {
            x.voice(kind, kind);
            x.raise(kind, 0, 5);
            x.raise(kind, 1, 7);
            x.raise(kind, 2, 4);
        }
        return x;
    }

    private static void asked(PatchAsks x, int b, int what, int want, int... bodies) {
        String call = "ask(" + b + ", " + what + ")";
        DUE.is(call, x.ask(b, what), 0);
        DUE.is(call + ": seen", x.seen(), want);
        traceIs(x, call, bodies);
    }

    private static void traceIs(PatchAsks x, String call, int... bodies) {
        DUE.is(call + ": bodies", x.about(1), bodies.length);
        for (int k = 0; k < bodies.length; k++) DUE.is(call + ": body " + k, x.trace(k), bodies[k]);
        DUE.is(call + ": no more", x.trace(bodies.length), -1);
    }

    private static void colours() {
        PatchAsks x = six();
        asked(x, 0, 0, 5, 1);
        asked(x, 1, 0, 12, 2, 1);
        asked(x, 2, 0, 12, 2, 1);
        asked(x, 3, 0, 5, 1);
        asked(x, 4, 0, 4, 3, 1);
        asked(x, 5, 0, 5, 1);
    }

    private static void strengths() {
        PatchAsks x = six();
        asked(x, 0, 1, 3, 10);
        asked(x, 1, 1, 3, 10);
        asked(x, 2, 1, 3, 10);
        asked(x, 3, 1, 6, 11, 10);
        asked(x, 4, 1, 7, 12, 11, 10);
        asked(x, 5, 1, 6, 11, 10);
    }

    private static void plays() {
        PatchAsks x = six();
        asked(x, 0, 2, 10, 20, 1);
        asked(x, 1, 2, 24, 20, 2, 1);
        asked(x, 2, 2, 27, 21, 20, 2, 1, 10);
        asked(x, 3, 2, -5, 22, 1);
        asked(x, 4, 2, -4, 22, 3, 1);
        asked(x, 5, 2, 23, 23, 22, 1);
    }

    private static void heards() {
        PatchAsks x = six();
        asked(x, 0, 3, 13, 30, 20, 1, 10);
        asked(x, 1, 3, 27, 30, 20, 2, 1, 10);
        asked(x, 2, 3, 30, 30, 21, 20, 2, 1, 10, 10);
        DUE.is("a NOISE is not heard", x.ask(3, 3), CAST);
        traceIs(x, "a NOISE");
        DUE.is("a WIND is not heard", x.ask(4, 3), CAST);
        asked(x, 5, 3, -17, 31, 11, 10, 23, 22, 1);
    }

    private static void editsAndNumbers() {
        PatchAsks x = six();
        for (int b = 0; b <= 5; b++) {
            asked(x, b, 4, 0);
            x.turn(b, 3);
            x.turn(b, -3);
            x.raise(b, 0, 1);
            asked(x, b, 4, 2);
            asked(x, b, 5, b);
        }
    }

    private static void asksWrap() {
        PatchAsks x = six();
        int most = Integer.MAX_VALUE, least = Integer.MIN_VALUE;
        x.raise(0, 0, most);
        asked(x, 0, 2, -2, 20, 1);
        x.raise(1, 0, most);
        x.raise(1, 1, 1);
        asked(x, 1, 0, least, 2, 1);
        x.raise(3, 0, least);
        asked(x, 3, 2, least, 22, 1);
        x.raise(4, 0, least);
        asked(x, 4, 0, most, 3, 1);
        x.raise(5, 0, 0);
        x.raise(5, 2, 1 << 30);
        asked(x, 5, 2, 7 * (1 << 30), 23, 22, 1);
        DUE.is("turn beyond the most", x.turn(0, 1), 0);
        DUE.is("wraps", x.seen(), least);
    }

    private static void askRefused() {
        PatchAsks x = six();
        x.sheet(6, 1, 1);
        for (int what = 0; what <= 5; what++) {
            x.ask(2, 3);
            DUE.is("ask a sheet", x.ask(6, what), CAST);
            traceIs(x, "ask a sheet");
            x.ask(2, 3);
            DUE.is("ask nothing", x.ask(9, what), NULL);
            traceIs(x, "ask nothing");
        }
        for (int what : new int[] {-1, 6, Integer.MIN_VALUE, Integer.MAX_VALUE}) {
            x.ask(2, 3);
            DUE.is("ask " + what, x.ask(9, what), OUTSIDE);
            traceIs(x, "ask " + what);
            for (int b : NO_BOXES) {
                x.ask(2, 3);
                DUE.is("ask, no box", x.ask(b, what), UNKNOWN);
                traceIs(x, "ask, no box");
            }
        }
        DUE.is("SEEN stays", x.seen(), 30);
    }

    private static void turns() {
        for (int b = 0; b <= 5; b++) turnsOfKind(b);
    }

    private static void turnsOfKind(int b) {
        PatchAsks x = six();
        boolean bell = b == 1 || b == 2;
        DUE.is("turn", x.turn(b, 3), 0);
        DUE.is("turn: seen is the LEVEL", x.seen(), 8);
        if (bell) traceIs(x, "turn " + b, 41, 40);
        else traceIs(x, "turn " + b, 40);
        x.level(b, 0);
        DUE.is("turned LEVEL", x.seen(), 8);
        DUE.is("own or not", x.level(b, 1), bell ? 0 : CAST);
        DUE.is("OWN LEVEL less", x.seen(), bell ? 4 : 8);
        DUE.is("skin or not", x.level(b, 2), b == 5 ? 0 : CAST);
        if (b == 5) DUE.is("SKIN stays", x.seen(), 4);
        DUE.is("one turn done", x.about(3), 1);
        x.turn(b, -10);
        x.turn((b + 1) % 6, 10);
        x.ask(b, 4);
        DUE.is("EDITS", x.seen(), 2);
        DUE.is("three turns done", x.about(3), 3);
    }

    private static void turnRefused() {
        PatchAsks x = six();
        x.sheet(6, 1, 1);
        x.ask(2, 3);
        DUE.is("turn a sheet", x.turn(6, 1), CAST);
        traceIs(x, "turn a sheet");
        x.ask(2, 3);
        DUE.is("turn nothing", x.turn(9, 1), NULL);
        traceIs(x, "turn nothing");
        for (int b : NO_BOXES) {
            x.ask(2, 3);
            DUE.is("turn, no box", x.turn(b, 1), UNKNOWN);
            traceIs(x, "turn, no box");
        }
        DUE.is("no turn was done", x.about(3), 0);
        DUE.is("SEEN stays", x.seen(), 30);
    }

    private static void troubles() {
        PatchAsks x = six();
        x.sheet(6, 1, 1);
        x.ask(2, 2);
        for (int b = 0; b <= 5; b++) {
            DUE.is("no trouble at first", x.fail(b), NULL);
            DUE.is("arm", x.arm(b, true), 0);
            DUE.is("its trouble comes", x.fail(b), TROUBLE);
            DUE.is("and again", x.fail(b), TROUBLE);
            DUE.is("disarm", x.arm(b, false), 0);
            DUE.is("none again", x.fail(b), NULL);
        }
        x.arm(0, true);
        x.share(0, 7);
        DUE.is("the same voice's trouble", x.fail(7), TROUBLE);
        DUE.is("another's is its own", x.fail(1), NULL);
        DUE.is("arm a sheet", x.arm(6, true), CAST);
        DUE.is("fail a sheet", x.fail(6), CAST);
        DUE.is("arm nothing", x.arm(9, true), NULL);
        DUE.is("fail nothing", x.fail(9), NULL);
        for (int b : NO_BOXES) {
            DUE.is("arm, no box", x.arm(b, true), UNKNOWN);
            DUE.is("fail, no box", x.fail(b), UNKNOWN);
        }
        traceIs(x, "arm and fail leave the trace", 21, 20, 2, 1, 10);
        DUE.is("SEEN stays", x.seen(), 27);
    }
}
