/** The edges of promises 23 to 28, sentence by sentence. */
public final class EdgesVoicesTest {
    private static final int LEAST = Edges.LEAST, MOST = Edges.MOST, FREE = Edges.FREE;
    private static final int NULL = Edges.NULL, CAST = Edges.CAST, OUTSIDE = Edges.OUTSIDE;
    private static final int TONE = Edges.TONE, BELL = Edges.BELL, CHIME = Edges.CHIME, NOISE = Edges.NOISE;
    private static final int WIND = Edges.WIND, DRUM = Edges.DRUM;
    private static final int[] NO_VOICES = {0, 4, 7, Edges.SHEET, Edges.BELLS, Edges.NO_PLACES, Edges.NO_INTS, Edges.NO_LINES};
    private static final int[] NO_THINGS = {19, 20, 21, 22, 23};
    private static Edges edges;

    public static void main(String[] args) throws Exception {
        edges = new Edges("EdgesVoicesTest");
        level();
        levelRefused();
        raise();
        raiseRefused();
        ask();
        askWraps();
        askRefused();
        turn();
        turnWraps();
        turnRefused();
        arm();
        armRefused();
        fail();
        failRefused();
        edges.end();
    }

    private static void level() {
        edges.promise(23);
        edges.says("SEEN becomes the LEVEL of a VOICE (as = 0),");
        for (int kind = 0; kind <= 5; kind++) {
            int b = TONE + kind;
            edges.left("level(" + b + ", 0)", 0, Edges.SEEN, x -> x.level(b, 0));
            PatchAsks x = Edges.full();
            edges.sees(x, "level(" + b + ", 0)", x.level(b, 0), b == WIND ? 105 : 100 + kind);
        }
        edges.says("the OWN LEVEL of a BELL (1),");
        PatchAsks x = Edges.full();
        edges.sees(x, "level(11, 1)", x.level(BELL, 1), 201);
        edges.sees(x, "level(12, 1)", x.level(CHIME, 1), 202);
        edges.says("the SKIN of a DRUM (2): 0.");
        edges.sees(x, "level(15, 2)", x.level(DRUM, 2), 305);
        edges.left("level(12, 1)", 0, Edges.SEEN, y -> y.level(CHIME, 1));
        edges.left("level(15, 2)", 0, Edges.SEEN, y -> y.level(DRUM, 2));
    }

    private static void levelRefused() {
        edges.says("UNKNOWN;");
        edges.unknown("level(v, 0)", (x, v) -> x.level(v, 0));
        edges.unknown("level(v, 3)", (x, v) -> x.level(v, 3));
        edges.says("OUTSIDE: as;");
        for (int b : new int[] {BELL, DRUM, 4, FREE}) {
            edges.refused("level(" + b + ", v)", OUTSIDE, (x, v) -> x.level(b, v), -1, 3, 4, LEAST, MOST);
        }
        edges.says("CAST: the BOX holds something else;");
        for (int as = 0; as <= 2; as++) {
            int a = as;
            edges.refused("level(v, " + as + ")", CAST, (x, v) -> x.level(v, a), NO_VOICES);
        }
        edges.refused("level(v, 1)", CAST, (x, v) -> x.level(v, 1), TONE, NOISE, WIND, DRUM);
        edges.refused("level(v, 2)", CAST, (x, v) -> x.level(v, 2), TONE, BELL, CHIME, NOISE, WIND);
        edges.says("NULL: NOTHING.");
        for (int as = 0; as <= 2; as++) {
            int a = as;
            edges.refused("level(v, " + as + ")", NULL, (x, v) -> x.level(v, a), NO_THINGS);
        }
    }

    private static void raise() {
        edges.promise(24);
        edges.says("It becomes v: 0.");
        int[][] own = {{0}, {0, 1}, {0, 1}, {0}, {0}, {0, 2}};
        for (int kind = 0; kind <= 5; kind++) {
            for (int as : own[kind]) {
                for (int v : new int[] {0, 1, -1, LEAST, MOST}) raised(TONE + kind, as, v, own[kind]);
            }
        }
    }

    private static void raised(int b, int as, int v, int[] own) {
        String call = "raise(" + b + ", " + as + ", " + v + ")";
        edges.left(call, 0, Edges.BOXES, x -> x.raise(b, as, v));
        PatchAsks x = Edges.full(), y = Edges.full();
        x.raise(b, as, v);
        for (int other : own) {
            y.level(b, other);
            edges.sees(x, call + ", level(" + b + ", " + other + ") then", x.level(b, other), other == as ? v : y.seen());
        }
        for (int k = TONE; k <= DRUM; k++) {
            y.level(k, 0);
            if (k != b) edges.sees(x, call + ", level(" + k + ", 0) then", x.level(k, 0), y.seen());
        }
        y.ask(b, 4);
        edges.sees(x, call + ": no edit", x.ask(b, 4), y.seen());
    }

    private static void raiseRefused() {
        edges.says("As level().");
        edges.unknown("raise(v, 0, 1)", (x, v) -> x.raise(v, 0, 1));
        edges.unknown("raise(v, 3, 1)", (x, v) -> x.raise(v, 3, 1));
        for (int b : new int[] {BELL, DRUM, 4, FREE}) {
            edges.refused("raise(" + b + ", v, 1)", OUTSIDE, (x, v) -> x.raise(b, v, 1), -1, 3, 4, LEAST, MOST);
        }
        for (int as = 0; as <= 2; as++) {
            int a = as;
            edges.refused("raise(v, " + as + ", 1)", CAST, (x, v) -> x.raise(v, a, 1), NO_VOICES);
            edges.refused("raise(v, " + as + ", 1)", NULL, (x, v) -> x.raise(v, a, 1), NO_THINGS);
        }
        edges.refused("raise(v, 1, 1)", CAST, (x, v) -> x.raise(v, 1, 1), TONE, NOISE, WIND, DRUM);
        edges.refused("raise(v, 2, 1)", CAST, (x, v) -> x.raise(v, 2, 1), TONE, BELL, CHIME, NOISE, WIND);
    }

    private static void asked(PatchAsks x, int b, int what, int want, int... bodies) {
        String call = "ask(" + b + ", " + what + ")";
        edges.sees(x, call, x.ask(b, what), want);
        traced(x, call, bodies);
    }

    private static void traced(PatchAsks x, String call, int... bodies) {
        edges.is(call + ", numbers in the trace", x.about(1), bodies.length);
        for (int k = 0; k < bodies.length; k++) edges.is(call + ", trace(" + k + ")", x.trace(k), bodies[k]);
        edges.is(call + ", trace(" + bodies.length + ")", x.trace(bodies.length), -1);
    }

    private static void ask() {
        edges.promise(25);
        edges.says("A VOICE is asked: what = 0 COLOUR, 1 STRENGTH, 2 PLAY, 3 HEARD, by its BODIES, 4 EDITS, 5 its number: "
                + "SEEN becomes that: 0.");
        PatchAsks x = Edges.full();
        for (int b = TONE; b <= DRUM; b++) {
            asked(x, b, 4, b == WIND ? 1 : 0);
            asked(x, b, 5, b - TONE);
            for (int what = 0; what <= 5; what++) {
                int box = b, w = what;
                boolean heard = b != NOISE && b != WIND;
                if (w != 3 || heard) edges.left("ask(" + b + ", " + w + ")", 0, Edges.SEEN | Edges.TRACE, y -> y.ask(box, w));
            }
        }
        asked(x, TONE, 0, 100, 1);
        asked(x, BELL, 0, 302, 2, 1);
        asked(x, TONE, 1, 3, 10);
        asked(x, WIND, 1, 7, 12, 11, 10);
        asked(x, CHIME, 2, 611, 21, 20, 2, 1, 10);
        asked(x, NOISE, 2, -103, 22, 1);
        asked(x, DRUM, 2, -105 + 7 * 305, 23, 22, 1);
        asked(x, TONE, 3, 203, 30, 20, 1, 10);
        asked(x, CHIME, 3, 614, 30, 21, 20, 2, 1, 10, 10);
        asked(x, DRUM, 3, 6 + 105 - 7 * 305, 31, 11, 10, 23, 22, 1);
    }

    private static void askWraps() {
        PatchAsks x = Edges.full();
        x.raise(BELL, 0, MOST);
        x.raise(BELL, 1, 1);
        asked(x, BELL, 0, LEAST, 2, 1);
        asked(x, BELL, 2, 0, 20, 2, 1);
        x.raise(WIND, 0, LEAST);
        asked(x, WIND, 0, MOST, 3, 1);
        asked(x, WIND, 2, -MOST, 22, 3, 1);
        x.raise(NOISE, 0, LEAST);
        asked(x, NOISE, 2, LEAST, 22, 1);
        x.raise(TONE, 0, LEAST / 2);
        asked(x, TONE, 2, LEAST, 20, 1);
        x.raise(TONE, 0, MOST / 2);
        asked(x, TONE, 3, LEAST + 1, 30, 20, 1, 10);
        x.raise(CHIME, 0, MOST / 2);
        x.raise(CHIME, 1, 0);
        asked(x, CHIME, 2, LEAST + 1, 21, 20, 2, 1, 10);
        x.raise(DRUM, 0, 0);
        x.raise(DRUM, 2, MOST);
        asked(x, DRUM, 2, MOST - 6, 23, 22, 1);
        x.raise(DRUM, 0, MOST);
        x.raise(DRUM, 2, 0);
        asked(x, DRUM, 3, LEAST + 5, 31, 11, 10, 23, 22, 1);
    }

    private static void askRefused() {
        edges.says("UNKNOWN;");
        edges.unknownEmptied("ask(v, 0)", (x, v) -> x.ask(v, 0));
        edges.unknownEmptied("ask(v, 6)", (x, v) -> x.ask(v, 6));
        edges.says("OUTSIDE: what;");
        for (int b : new int[] {CHIME, NOISE, 4, FREE}) {
            edges.refusedEmptied("ask(" + b + ", v)", OUTSIDE, (x, v) -> x.ask(b, v), -1, 6, 7, LEAST, MOST);
        }
        edges.says("CAST: the BOX holds no VOICE (of 3: none that is HEARD);");
        for (int what = 0; what <= 5; what++) {
            int w = what;
            edges.refusedEmptied("ask(v, " + what + ")", CAST, (x, v) -> x.ask(v, w), NO_VOICES);
        }
        edges.refusedEmptied("ask(v, 3)", CAST, (x, v) -> x.ask(v, 3), NOISE, WIND);
        edges.says("NULL: NOTHING.");
        for (int what = 0; what <= 5; what++) {
            int w = what;
            edges.refusedEmptied("ask(v, " + what + ")", NULL, (x, v) -> x.ask(v, w), NO_THINGS);
        }
    }

    private static void turn() {
        edges.promise(26);
        edges.says("TURN: SEEN becomes the LEVEL: 0.");
        int may = Edges.BOXES | Edges.SEEN | Edges.TRACE | Edges.TURNS;
        for (int b = TONE; b <= DRUM; b++) {
            for (int by : new int[] {3, 0, -3}) turned(b, by);
            int box = b;
            edges.left("turn(" + b + ", 3)", 0, may, x -> x.turn(box, 3));
        }
    }

    private static void turned(int b, int by) {
        PatchAsks x = Edges.full();
        String call = "turn(" + b + ", " + by + ")";
        boolean bell = b == BELL || b == CHIME;
        int level = (b == WIND ? 105 : 100 + b - TONE) + by;
        edges.sees(x, call, x.turn(b, by), level);
        if (bell) traced(x, call, 41, 40);
        else traced(x, call, 40);
        edges.is(call + ", about(3)", x.about(3), 2);
        edges.sees(x, call + ", LEVEL", x.level(b, 0), level);
        if (bell) edges.sees(x, call + ", OWN LEVEL", x.level(b, 1), 200 + b - TONE - by);
        if (b == DRUM) edges.sees(x, call + ", SKIN", x.level(b, 2), 305);
        edges.sees(x, call + ", EDITS", x.ask(b, 4), b == WIND ? 2 : 1);
        int other = b == TONE ? DRUM : TONE;
        edges.sees(x, call + ", another's LEVEL", x.level(other, 0), 100 + other - TONE);
        edges.sees(x, call + ", another's EDITS", x.ask(other, 4), 0);
    }

    private static void turnWraps() {
        for (int b = TONE; b <= DRUM; b++) {
            PatchAsks x = Edges.full();
            x.raise(b, 0, MOST);
            edges.sees(x, "turn(" + b + ", 1) of the greatest", x.turn(b, 1), LEAST);
            edges.sees(x, "turn(" + b + ", -1) of the least", x.turn(b, -1), MOST);
            edges.sees(x, "turn(" + b + ", least)", x.turn(b, LEAST), -1);
        }
        PatchAsks x = Edges.full();
        x.raise(BELL, 1, LEAST);
        x.turn(BELL, 1);
        edges.sees(x, "the OWN LEVEL wraps", x.level(BELL, 1), MOST);
        x.raise(BELL, 1, 0);
        x.turn(BELL, LEAST);
        edges.sees(x, "the OWN LEVEL, less the least", x.level(BELL, 1), LEAST);
    }

    private static void turnRefused() {
        edges.says("UNKNOWN;");
        edges.unknownEmptied("turn(v, 1)", (x, v) -> x.turn(v, 1));
        edges.says("CAST;");
        edges.refusedEmptied("turn(v, 1)", CAST, (x, v) -> x.turn(v, 1), NO_VOICES);
        edges.says("NULL.");
        edges.refusedEmptied("turn(v, 1)", NULL, (x, v) -> x.turn(v, 1), NO_THINGS);
    }

    private static void arm() {
        edges.promise(27);
        edges.says("A VOICE has a TROUBLE, or none: 0.");
        for (int b = TONE; b <= DRUM; b++) {
            int box = b;
            boolean armed = b == BELL;
            edges.left("arm(" + b + ", true)", 0, armed ? Edges.NOTHING : Edges.BOXES, x -> x.arm(box, true));
            edges.left("arm(" + b + ", false)", 0, armed ? Edges.BOXES : Edges.NOTHING, x -> x.arm(box, false));
            PatchAsks x = Edges.full();
            long h = x.digest();
            x.arm(b, true);
            x.arm(b, true);
            edges.is("fail(" + b + ") when armed twice", x.fail(b), Edges.TROUBLE);
            edges.is("another's is its own", x.fail(b == TONE ? DRUM : TONE), NULL);
            x.arm(b, false);
            edges.is("fail(" + b + ") when disarmed once", x.fail(b), NULL);
            x.arm(b, armed);
            edges.is("digest() as it was", x.digest(), h);
        }
    }

    private static void armRefused() {
        edges.says("UNKNOWN;");
        edges.unknown("arm(v, true)", (x, v) -> x.arm(v, true));
        edges.unknown("arm(v, false)", (x, v) -> x.arm(v, false));
        edges.says("CAST;");
        edges.refused("arm(v, true)", CAST, (x, v) -> x.arm(v, true), NO_VOICES);
        edges.refused("arm(v, false)", CAST, (x, v) -> x.arm(v, false), NO_VOICES);
        edges.says("NULL.");
        edges.refused("arm(v, true)", NULL, (x, v) -> x.arm(v, true), NO_THINGS);
        edges.refused("arm(v, false)", NULL, (x, v) -> x.arm(v, false), NO_THINGS);
    }

    private static void fail() {
        edges.promise(28);
        edges.says("Its TROUBLE comes.");
        PatchAsks x = Edges.full();
        for (int k = 1; k <= 3; k++) {
            edges.is("fail(11)", x.fail(BELL), Edges.TROUBLE);
            edges.is("finding() then", x.finding(), 7);
            edges.is("findings(7) then", x.findings(7), k);
        }
        x.take(Edges.BELLS, 0, FREE);
        edges.is("the same voice out of its bank", x.fail(FREE), Edges.TROUBLE);
        edges.says("TROUBLE;");
        for (int b = TONE; b <= DRUM; b++) {
            x.arm(b, true);
            edges.is("fail(" + b + ") when armed", x.fail(b), Edges.TROUBLE);
        }
        edges.refused("fail(11)", Edges.TROUBLE, y -> y.fail(BELL));
    }

    private static void failRefused() {
        edges.says("UNKNOWN;");
        edges.unknown("fail(v)", (x, v) -> x.fail(v));
        edges.says("CAST;");
        edges.refused("fail(v)", CAST, (x, v) -> x.fail(v), NO_VOICES);
        edges.says("NULL: NOTHING;");
        edges.refused("fail(v)", NULL, (x, v) -> x.fail(v), NO_THINGS);
        edges.says("NULL: it has none.");
        edges.refused("fail(v)", NULL, (x, v) -> x.fail(v), TONE, CHIME, NOISE, WIND, DRUM);
    }
}
