/** The edges of what stands ahead of the promises, for all calls: TERMS, BODIES, FINDINGS. */
public final class EdgesTermsTest {
    private static final int LEAST = Edges.LEAST, MOST = Edges.MOST, FREE = Edges.FREE;
    private static final int TONE = Edges.TONE, BELL = Edges.BELL, CHIME = Edges.CHIME, NOISE = Edges.NOISE;
    private static final int WIND = Edges.WIND, DRUM = Edges.DRUM;
    private static Edges edges;

    public static void main(String[] args) throws Exception {
        edges = new Edges("EdgesTermsTest");
        whatItIs();
        lastCalls();
        boxes();
        curves();
        words();
        tellingWords();
        sheetsAndBanks();
        voices();
        voicesBegin();
        trace();
        colour();
        strength();
        play();
        heard();
        turn();
        traceEmptied();
        findings();
        order();
        changesNothing();
        edges.end();
    }

    private static void whatItIs() {
        edges.part("## What it is");
        edges.says("A rack of instruments that are asked for what they are: voices of kinds, one under another, ");
        for (int kind = 0; kind <= 5; kind++) edges.is("a VOICE of kind " + kind, Edges.full().is(TONE + kind, 20 + kind), 1);
        edges.says("with numbers of their own that hide those above, ");
        PatchAsks x = Edges.full();
        edges.sees(x, "a BELL's LEVEL", x.level(BELL, 0), 101);
        edges.sees(x, "a BELL's OWN LEVEL", x.level(BELL, 1), 201);
        edges.says("curves of every lane, sheets of lines, banks that take some voices alone;");
        for (int b = 0; b <= Edges.BELLS; b++) edges.is("width(" + b + ", " + b + ")", x.width(b, b), 3);
        edges.says("whatever is nothing, is not there, is of another kind or does not fit is found as it is met.");
        edges.is("nothing", x.read(FREE, 4, 0), Edges.NULL);
        edges.is("not there", x.read(4, 4, 3), Edges.INDEX);
        edges.is("of another kind", x.read(5, 4, 0), Edges.CAST);
        edges.is("does not fit", x.set(Edges.BELLS, 0, TONE), Edges.STORE);
        edges.says("======== 1 BOXES 0 ..");
        edges.is("the first BOX", x.what(0), 0);
        edges.is("none ahead of it", x.what(-1), Edges.UNKNOWN);
    }

    private static void lastCalls() {
        edges.says("An object is used for at most 512 calls after it has been made; what later calls answer is free.");
        PatchAsks x = new PatchAsks();
        x.voice(0, 1);
        for (int k = 2; k <= 509; k++) edges.is("turn, call " + k, x.turn(0, MOST), 0);
        int level = 0;
        for (int k = 2; k <= 509; k++) level += MOST;
        edges.is("seen(), call 510", x.seen(), level);
        edges.is("about(3), call 511", x.about(3), 508);
        edges.is("trace(1), call 512", x.trace(1), 40);
        x = new PatchAsks();
        for (int k = 1; k <= 511; k++) edges.is("sheet, call " + k, x.sheet(k % 24, 8, 8), 8);
        edges.is("about(2), call 512", x.about(2), 24);
        x = new PatchAsks();
        x.curve(0, 7, 16);
        for (int k = 2; k <= 511; k++) edges.is("grow, call " + k, x.grow(0, 16), 16);
        edges.is("width, call 512", x.width(0, 7), 16);
    }

    private static void boxes() {
        edges.part("TERMS", "23 each hold NOTHING", "======== 2 BODIES");
        edges.says("23 each hold NOTHING (at first) or a THING;");
        PatchAsks x = new PatchAsks();
        for (int b = 0; b <= 23; b++) {
            edges.is("what(" + b + ") at first", x.what(b), -1);
            edges.is("voice(" + b + ", 3)", x.voice(b, 3), b);
        }
        for (int b = 0; b <= 23; b++) edges.sees(x, "each its own", x.ask(b, 5), b);
        edges.is("what(24)", x.what(24), Edges.UNKNOWN);
        edges.says("several may hold the same one. THINGS:");
        x.curve(0, 4, 1);
        for (int c = 1; c <= 23; c++) x.share(c - 1, c);
        x.write(23, 4, 0, 8);
        for (int b = 0; b <= 23; b++) edges.sees(x, "the same in BOX " + b, x.read(b, 4, 0), 8);
    }

    private static void curves() {
        edges.says("A CURVE: a row of 0 .. 16 numbers of a LANE: 0 truth, 1 byte, 2 char, 3 short, 4 int, 5 long, 6 float, "
                + "7 double; all 0 (false) at first.");
        for (int lane = 0; lane <= 7; lane++) {
            PatchAsks x = new PatchAsks();
            edges.is("curve of 17", x.curve(0, lane, 17), Edges.OUTSIDE);
            edges.is("curve of 16", x.curve(0, lane, 16), 16);
            for (int i = 0; i < 16; i++) edges.sees(x, "number " + i, x.read(0, lane, i), 0);
            edges.is("curve of 0", x.curve(0, lane, 0), 0);
            edges.is("curve of -1", x.curve(0, lane, -1), Edges.SIZE);
        }
    }

    /** The word that is read where another was written. */
    private static void told(int lane, long word, long want) {
        PatchAsks x = new PatchAsks();
        x.curve(0, lane, 1);
        edges.is("lane " + lane + ", write " + word, x.write(0, lane, 0, word), 0);
        edges.sees(x, "lane " + lane + ", read of " + word, x.read(0, lane, 0), want);
    }

    private static void words() {
        edges.says("WORDS tell numbers, as longs: truth 1, 0;");
        told(0, 0, 0);
        told(0, 1, 1);
        edges.says("whole ones themselves (char from 0 on);");
        told(1, -128, -128);
        told(1, 127, 127);
        told(2, 0, 0);
        told(2, 65535, 65535);
        told(3, -32768, -32768);
        told(3, 32767, 32767);
        told(4, LEAST, LEAST);
        told(4, MOST, MOST);
        told(5, Long.MIN_VALUE, Long.MIN_VALUE);
        told(5, Long.MAX_VALUE, Long.MAX_VALUE);
        edges.says("a float its 32 bits as an int, a double its 64.");
        told(6, Float.floatToRawIntBits(-1f), 0xffffffffbf800000L);
        told(6, Float.floatToRawIntBits(-0f), LEAST);
        told(6, Float.floatToRawIntBits(1f), 0x3f800000L);
        told(7, Double.doubleToRawLongBits(-1.0), 0xbff0000000000000L);
        told(7, Double.doubleToRawLongBits(-0.0), Long.MIN_VALUE);
    }

    private static void tellingWords() {
        edges.says("A number told by a WORD: by its lowest bit,");
        told(0, 2, 0);
        told(0, 3, 1);
        told(0, -2, 0);
        told(0, Long.MAX_VALUE, 1);
        edges.says("8, 16, 16, 32 bits, all of it;");
        told(1, 128, -128);
        told(1, 256, 0);
        told(1, -129, 127);
        told(2, 65536, 0);
        told(2, -1, 65535);
        told(2, -65536, 0);
        told(3, 32768, -32768);
        told(3, 65536, 0);
        told(3, -32769, 32767);
        told(4, MOST + 1L, LEAST);
        told(4, LEAST - 1L, MOST);
        told(4, 1L << 32, 0);
        told(5, 1L << 32, 1L << 32);
        told(5, -1, -1);
        edges.says("a float by its lowest 32 bits, a double by all.");
        told(6, 0xbf800000L, 0xffffffffbf800000L);
        told(6, 0x123456783f800000L, 0x3f800000L);
        told(6, 0x7ff8000000000000L, 0);
        told(7, 0x7fc00000L, 0x7fc00000L);
        told(7, 0x123456783f800000L, 0x123456783f800000L);
    }

    private static void sheetsAndBanks() {
        edges.says("A SHEET: a row of 0 .. 8 LINES, each a row of ints, or NOTHING.");
        PatchAsks x = Edges.full();
        edges.is("sheet of 9", x.sheet(8, 9, 1), Edges.OUTSIDE);
        edges.is("a LINE of NOTHING", x.line(8, 1, 0), Edges.NULL);
        edges.is("sheet of 8", x.sheet(8, 8, 1), 8);
        edges.is("sheet of 0", x.sheet(8, 0, 1), 0);
        edges.is("sheet of -1", x.sheet(8, -1, 1), Edges.SIZE);
        edges.says("A BANK of a KIND: a row of 0 .. 8 places, each with a VOICE, or NOTHING (at first).");
        edges.is("bank of 9", x.bank(9, 0, 9), Edges.OUTSIDE);
        edges.is("bank of 8", x.bank(9, 0, 8), 8);
        for (int i = 0; i < 8; i++) edges.is("place " + i + " at first", x.get(9, i), -1);
        edges.is("a VOICE", x.set(9, 7, TONE), 0);
        edges.is("place 7 then", x.get(9, 7), 0);
        edges.is("bank of 0", x.bank(9, 0, 0), 0);
        edges.is("bank of -1", x.bank(9, 0, -1), Edges.SIZE);
    }

    private static void voices() {
        edges.says("VOICES 0, 1, .. (40 at most, numbered as they are made) are of KINDS:");
        PatchAsks x = new PatchAsks();
        for (int k = 0; k < 40; k++) edges.is("VOICE " + k, x.voice(23 - k % 24, k % 6), k);
        edges.is("one more", x.voice(0, 0), Edges.FULL);
        edges.says("0 TONE, 1 BELL (a TONE, too), 2 CHIME (a BELL and a TONE, too), 3 NOISE, 4 WIND (a NOISE, too), "
                + "5 DRUM (a NOISE, too); 6 is any VOICE.");
        int[] such = {0b1000001, 0b1000011, 0b1000111, 0b1001000, 0b1011000, 0b1101000};
        x = Edges.full();
        for (int kind = 0; kind <= 5; kind++) {
            for (int q = 0; q <= 6; q++) edges.is("is(" + (TONE + kind) + ", 2" + q + ")", x.is(TONE + kind, 20 + q), such[kind] >> q & 1);
        }
        edges.says("TONES and DRUMS are HEARD.");
        int[] heard = {1, 1, 1, 0, 0, 1};
        for (int kind = 0; kind <= 5; kind++) {
            edges.is("is(" + (TONE + kind) + ", 30)", x.is(TONE + kind, 30), heard[kind]);
            edges.is("ask(" + (TONE + kind) + ", 3)", x.ask(TONE + kind, 3), heard[kind] == 1 ? 0 : Edges.CAST);
        }
    }

    private static void voicesBegin() {
        edges.says("A VOICE has a LEVEL and EDITS, a BELL an OWN LEVEL besides, a DRUM a SKIN (ints, 0 at first; they wrap), "
                + "and a TROUBLE, or none (at first).");
        for (int kind = 0; kind <= 5; kind++) {
            PatchAsks x = new PatchAsks();
            x.voice(0, kind);
            boolean bell = kind == 1 || kind == 2, drum = kind == 5;
            edges.sees(x, "LEVEL at first", x.level(0, 0), 0);
            edges.sees(x, "EDITS at first", x.ask(0, 4), 0);
            edges.is("OWN LEVEL", x.level(0, 1), bell ? 0 : Edges.CAST);
            edges.is("OWN LEVEL at first", x.seen(), 0);
            edges.is("SKIN", x.level(0, 2), drum ? 0 : Edges.CAST);
            edges.is("SKIN at first", x.seen(), 0);
            edges.is("no TROUBLE at first", x.fail(0), Edges.NULL);
            x.raise(0, 0, MOST);
            edges.sees(x, "LEVEL wraps", x.turn(0, 2), LEAST + 1);
            if (!bell) continue;
            x.raise(0, 1, LEAST);
            x.turn(0, 2);
            edges.sees(x, "OWN LEVEL wraps", x.level(0, 1), MOST - 1);
        }
    }

    private static void asked(int b, int what, int want, int... bodies) {
        PatchAsks x = Edges.full();
        edges.sees(x, "ask(" + b + ", " + what + ")", x.ask(b, what), want);
        traced(x, "ask(" + b + ", " + what + ")", bodies);
    }

    private static void traced(PatchAsks x, String call, int... bodies) {
        edges.is(call + ", numbers in the trace", x.about(1), bodies.length);
        for (int k = 0; k < bodies.length; k++) edges.is(call + ", trace(" + k + ")", x.trace(k), bodies[k]);
        edges.is(call + ", none behind them", x.trace(bodies.length), -1);
    }

    private static void trace() {
        edges.part("BODIES", "======== 2 BODIES", "======== 3 FINDINGS");
        // no run can reach the 100: an ask begins seven bodies at most, and each empties the trace
        edges.says("======== 2 BODIES, each of which writes its number behind THE TRACE as it begins "
                + "(100 at most; what is more is not written).");
        asked(CHIME, 3, 614, 30, 21, 20, 2, 1, 10, 10);
        PatchAsks x = Edges.full();
        for (int k = 0; k < 50; k++) x.ask(CHIME, 3);
        traced(x, "the fiftieth ask(12, 3)", 30, 21, 20, 2, 1, 10, 10);
        edges.is("trace(100)", x.trace(100), -1);
    }

    private static void colour() {
        edges.says("COLOUR: TONE, NOISE, DRUM (1): the LEVEL.");
        asked(TONE, 0, 100, 1);
        asked(NOISE, 0, 103, 1);
        asked(DRUM, 0, 105, 1);
        edges.says("BELL, CHIME (2): that (1 follows), and the OWN LEVEL more.");
        asked(BELL, 0, 302, 2, 1);
        asked(CHIME, 0, 304, 2, 1);
        edges.says("WIND (3): that (1 follows), less 1.");
        asked(WIND, 0, 104, 3, 1);
    }

    private static void strength() {
        edges.says("STRENGTH: TONE, BELL, CHIME (10): 3.");
        asked(TONE, 1, 3, 10);
        asked(BELL, 1, 3, 10);
        asked(CHIME, 1, 3, 10);
        edges.says("NOISE, DRUM (11): twice that (10 follows).");
        asked(NOISE, 1, 6, 11, 10);
        asked(DRUM, 1, 6, 11, 10);
        edges.says("WIND (12): 1 more than what a NOISE has (11, 10 follow).");
        asked(WIND, 1, 7, 12, 11, 10);
    }

    private static void play() {
        edges.says("PLAY: TONE, BELL (20): twice its COLOUR (whose BODIES follow).");
        asked(TONE, 2, 200, 20, 1);
        asked(BELL, 2, 604, 20, 2, 1);
        edges.says("CHIME (21): what a BELL plays (20 and what follows it), and its STRENGTH (whose BODY follows then).");
        asked(CHIME, 2, 611, 21, 20, 2, 1, 10);
        edges.says("NOISE, WIND (22): 0 less its COLOUR.");
        asked(NOISE, 2, -103, 22, 1);
        asked(WIND, 2, -104, 22, 3, 1);
        edges.says("DRUM (23): what a NOISE plays (22 and what follows it), and 7 times its SKIN.");
        asked(DRUM, 2, -105 + 2135, 23, 22, 1);
    }

    private static void heard() {
        edges.says("HEARD: TONE, BELL, CHIME (30): PLAY, then STRENGTH, together.");
        asked(TONE, 3, 203, 30, 20, 1, 10);
        asked(BELL, 3, 607, 30, 20, 2, 1, 10);
        asked(CHIME, 3, 614, 30, 21, 20, 2, 1, 10, 10);
        edges.says("DRUM (31): STRENGTH, less PLAY (worked out behind it).");
        asked(DRUM, 3, 6 - 2030, 31, 11, 10, 23, 22, 1);
    }

    private static void turned(int b, int level, int own, int... bodies) {
        PatchAsks x = Edges.full();
        x.ask(b, 4);
        long edits = x.seen();
        edges.sees(x, "turn(" + b + ", 9)", x.turn(b, 9), level);
        traced(x, "turn(" + b + ", 9)", bodies);
        edges.sees(x, "EDITS", x.ask(b, 4), edits + 1);
        if (own != 0) edges.sees(x, "OWN LEVEL", x.level(b, 1), own);
    }

    private static void turn() {
        edges.says("TURN by an int: TONE, NOISE, WIND, DRUM (40): the LEVEL becomes that more, EDITS one more.");
        turned(TONE, 109, 0, 40);
        turned(NOISE, 112, 0, 40);
        turned(WIND, 114, 0, 40);
        turned(DRUM, 114, 0, 40);
        edges.says("BELL, CHIME (41): the OWN LEVEL becomes that less; then what a TONE does (40 follows).");
        turned(BELL, 110, 192, 41, 40);
        turned(CHIME, 111, 193, 41, 40);
    }

    private static void traceEmptied() {
        edges.says("THE TRACE is emptied by each ask() and turn(), also one that is refused.");
        edges.unknownEmptied("ask(v, 0)", (x, v) -> x.ask(v, 0));
        edges.unknownEmptied("turn(v, 0)", (x, v) -> x.turn(v, 0));
        edges.refusedEmptied("ask(12, v)", Edges.OUTSIDE, (x, v) -> x.ask(CHIME, v), -1, 6);
        edges.refusedEmptied("ask(v, 0)", Edges.CAST, (x, v) -> x.ask(v, 0), 4, 8, 9);
        edges.refusedEmptied("turn(v, 0)", Edges.CAST, (x, v) -> x.turn(v, 0), 4, 8, 9);
        edges.refusedEmptied("ask(v, 0)", Edges.NULL, (x, v) -> x.ask(v, 0), FREE);
        edges.refusedEmptied("turn(v, 0)", Edges.NULL, (x, v) -> x.turn(v, 0), FREE);
        PatchAsks x = Edges.full();
        x.ask(CHIME, 4);
        traced(x, "ask(12, 4)");
        x.turn(CHIME, 0);
        x.turn(CHIME, 0);
        traced(x, "the second turn(12, 0)", 41, 40);
        x.ask(TONE, 0);
        traced(x, "ask(10, 0)", 1);
    }

    private static void findings() {
        edges.part("FINDINGS", "======== 3 FINDINGS", "Ahead of the calls `curve`");
        edges.says("======== 3 FINDINGS are answered as -10 less them: 1 NULL (something is NOTHING, or none),");
        edges.refused("read(19, 4, 0)", -11, x -> x.read(FREE, 4, 0));
        edges.refused("fail(10)", -11, x -> x.fail(TONE));
        edges.says("2 INDEX (no such place),");
        edges.refused("read(4, 4, 3)", -12, x -> x.read(4, 4, 3));
        edges.says("3 CAST (of another sort),");
        edges.refused("read(5, 4, 0)", -13, x -> x.read(5, 4, 0));
        edges.says("4 STORE (a BANK takes no such VOICE),");
        edges.refused("set(9, 0, 10)", -14, x -> x.set(Edges.BELLS, 0, TONE));
        edges.says("5 SIZE (below 0),");
        edges.refused("grow(4, -1)", -15, x -> x.grow(4, -1));
        edges.says("6 ZERO,");
        edges.refused("shape(4, 0, 11, 0)", -16, x -> x.shape(4, 0, 11, 0));
        edges.says("7 TROUBLE.");
        edges.refused("fail(11)", -17, x -> x.fail(BELL));
    }

    private static void order() {
        edges.says("Refusals come ahead of them: UNKNOWN (no such BOX), OUTSIDE (a number is not as told), FULL;");
        edges.unknown("curve(v, 0, -1)", (x, v) -> x.curve(v, 0, -1));
        edges.refused("curve(0, 8, -1)", Edges.OUTSIDE, x -> x.curve(0, 8, -1));
        edges.refused("sheet(0, -1, 9)", Edges.OUTSIDE, x -> x.sheet(0, -1, 9));
        edges.refused("bank(0, 7, -1)", Edges.OUTSIDE, x -> x.bank(0, 7, -1));
        edges.refused("write(19, 6, 0, no float)", Edges.OUTSIDE, x -> x.write(FREE, 6, 0, 0x7fc00000L));
        edges.refused("shape(6, 3, 5, no float)", Edges.OUTSIDE, x -> x.shape(6, 3, 5, 0x7fc00000L));
        edges.refused("copy(19, 0, 24, 0, -1)", Edges.UNKNOWN, x -> x.copy(FREE, 0, 24, 0, -1));
        edges.refused("lay(4, 9, 24)", Edges.UNKNOWN, x -> x.lay(4, 9, 24));
        edges.refused("set(4, 9, 24)", Edges.UNKNOWN, x -> x.set(4, 9, 24));
        edges.refused("take(4, 9, 24)", Edges.UNKNOWN, x -> x.take(4, 9, 24));
        edges.says("of several the first as a call tells them;");
        edges.unknown("curve(v, 8, 17)", (x, v) -> x.curve(v, 8, 17));
        edges.unknown("shape(v, 0, 12, 0)", (x, v) -> x.shape(v, 0, 12, 0));
        edges.says("so it is with FINDINGS.");
        edges.refused("copy(19, 0, 8, 0, -1)", Edges.NULL, x -> x.copy(FREE, 0, 8, 0, -1));
        edges.refused("copy(8, 0, 19, 0, -1)", Edges.CAST, x -> x.copy(8, 0, FREE, 0, -1));
        edges.refused("copy(4, 9, 19, 0, -1)", Edges.NULL, x -> x.copy(4, 9, FREE, 0, -1));
        edges.refused("lay(19, 9, 5)", Edges.CAST, x -> x.lay(FREE, 9, 5));
        edges.refused("set(19, 9, 5)", Edges.CAST, x -> x.set(FREE, 9, 5));
        edges.refused("set(9, 3, 10)", Edges.INDEX, x -> x.set(Edges.BELLS, 3, TONE));
        edges.refused("line(8, 1, 9)", Edges.NULL, x -> x.line(8, 1, 9));
        edges.refused("shape(4, 3, 11, 0)", Edges.INDEX, x -> x.shape(4, 3, 11, 0));
        edges.refused("grow(8, -1)", Edges.CAST, x -> x.grow(8, -1));
    }

    private static void changesNothing() {
        edges.says("What is refused or has a FINDING changes nothing but what finding(), findings() tell, and THE TRACE.");
        PatchAsks x = Edges.full();
        long h = x.digest(), seen = x.seen();
        x.curve(0, 0, -1);
        x.curve(0, 8, 1);
        x.sheet(0, -1, 1);
        x.bank(0, 0, -1);
        x.voice(0, 6);
        x.share(0, 24);
        x.write(4, 4, 3, 1);
        x.copy(4, 0, 4, 1, 3);
        x.grow(4, -1);
        x.shape(4, 0, 8, 0);
        x.rule(8, 1, 0, 1);
        x.lay(8, 3, 4);
        x.set(Edges.BELLS, 0, TONE);
        x.take(Edges.BELLS, 3, 4);
        x.raise(TONE, 1, 9);
        x.arm(4, true);
        x.fail(BELL);
        traced(x, "the trace, ahead of ask() and turn()", 30, 21, 20, 2, 1, 10, 10);
        x.ask(NOISE, 3);
        x.turn(4, 1);
        edges.is("digest()", x.digest(), h);
        edges.is("seen()", x.seen(), seen);
        edges.is("about(0)", x.about(0), 6);
        edges.is("about(3)", x.about(3), 1);
        edges.is("finding()", x.finding(), 3);
    }
}
