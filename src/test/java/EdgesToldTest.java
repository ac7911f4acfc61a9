/** The edges of promises 29 to 33, sentence by sentence. */
public final class EdgesToldTest {
    private static final int LEAST = Edges.LEAST, MOST = Edges.MOST, FREE = Edges.FREE;
    private static final int OUTSIDE = Edges.OUTSIDE;
    private static final int TONE = Edges.TONE, BELL = Edges.BELL;
    private static Edges edges;

    public static void main(String[] args) throws Exception {
        edges = new Edges("EdgesToldTest");
        trace();
        finding();
        findings();
        about();
        aboutOutside();
        digestBegins();
        digestOfCurves();
        digestOfSheets();
        digestOfBanks();
        digestOfVoices();
        edges.end();
    }

    private static void trace() {
        edges.promise(29);
        edges.says("Number k of THE TRACE;");
        int[] bodies = {30, 21, 20, 2, 1, 10, 10};
        for (int k = 0; k < bodies.length; k++) {
            int at = k;
            edges.left("trace(" + k + ")", bodies[k], Edges.NOTHING, x -> x.trace(at));
        }
        PatchAsks x = Edges.full();
        x.ask(TONE, 0);
        edges.is("trace(0) of a shorter one", x.trace(0), 1);
        edges.says("NONE.");
        edges.is("trace(1) of a shorter one", x.trace(1), -1);
        for (int k : new int[] {7, 8, 99, 100, 101, -1, LEAST, MOST}) {
            edges.left("trace(" + k + ")", -1, Edges.NOTHING, y -> y.trace(k));
            edges.is("trace(" + k + ") of a new one", new PatchAsks().trace(k), -1);
        }
        edges.is("trace(0) of a new one", new PatchAsks().trace(0), -1);
        x.ask(TONE, 5);
        edges.is("trace(0) of an empty one", x.trace(0), -1);
    }

    private static void finding() {
        edges.promise(30);
        edges.says("0 before any.");
        PatchAsks x = new PatchAsks();
        edges.is("finding() of a new one", x.finding(), 0);
        x.curve(24, 0, 0);
        x.curve(0, 8, 0);
        x.curve(0, 0, 17);
        x.voice(0, 6);
        edges.is("refusals are none", x.finding(), 0);
        edges.left("finding()", 1, Edges.NOTHING, PatchAsks::finding);
        edges.says("The latest FINDING;");
        x = Edges.full();
        edges.is("1, by full()", x.finding(), 1);
        x.read(4, 4, 3);
        edges.is("INDEX", x.finding(), 2);
        x.read(5, 4, 0);
        edges.is("CAST", x.finding(), 3);
        x.set(Edges.BELLS, 0, TONE);
        edges.is("STORE", x.finding(), 4);
        x.grow(4, -1);
        edges.is("SIZE", x.finding(), 5);
        x.shape(4, 0, 11, 0);
        edges.is("ZERO", x.finding(), 6);
        x.fail(BELL);
        edges.is("TROUBLE", x.finding(), 7);
        x.read(FREE, 4, 0);
        edges.is("NULL", x.finding(), 1);
        x.read(4, 4, 0);
        x.read(24, 4, 0);
        x.read(4, 8, 0);
        edges.is("what is well or refused leaves it", x.finding(), 1);
    }

    private static void findings() {
        edges.promise(31);
        edges.says("How often a FINDING (1 .. 7) was answered.");
        for (int f = 1; f <= 7; f++) {
            int asked = f;
            edges.left("findings(" + f + ")", f == 1 ? 1 : 0, Edges.NOTHING, x -> x.findings(asked));
            edges.is("findings(" + f + ") of a new one", new PatchAsks().findings(f), 0);
        }
        PatchAsks x = new PatchAsks();
        for (int k = 1; k <= 510; k++) edges.is("fail(0), call " + k, x.fail(0), Edges.NULL);
        edges.is("findings(1), call 511", x.findings(1), 510);
        edges.is("findings(2), call 512", x.findings(2), 0);
        edges.says("OUTSIDE.");
        edges.refused("findings(v)", OUTSIDE, (y, v) -> y.findings(v), 0, 8, 9, -1, LEAST, MOST);
    }

    private static void about() {
        edges.promise(32);
        edges.says("How many: 0 VOICES made,");
        edges.left("about(0)", 6, Edges.NOTHING, x -> x.about(0));
        PatchAsks x = new PatchAsks();
        for (int k = 0; k < 40; k++) {
            edges.is("VOICES made", x.about(0), k);
            x.voice(0, k % 6);
        }
        x.voice(0, 0);
        x.clear(0);
        edges.is("VOICES made, at most", x.about(0), 40);
        edges.says("1 numbers in THE TRACE,");
        edges.left("about(1)", 7, Edges.NOTHING, y -> y.about(1));
        edges.is("of a new one", new PatchAsks().about(1), 0);
        edges.says("2 BOXES that hold something,");
        edges.left("about(2)", 19, Edges.NOTHING, y -> y.about(2));
        x = new PatchAsks();
        for (int b = 0; b < 24; b++) {
            edges.is("BOXES that hold something", x.about(2), b);
            x.curve(b, 0, 0);
        }
        edges.is("all of them", x.about(2), 24);
        for (int b = 23; b >= 0; b--) {
            x.clear(b);
            edges.is("one less", x.about(2), b);
        }
        x.curve(0, 0, 0);
        x.share(0, 1);
        edges.is("one thing in two boxes", x.about(2), 2);
        edges.says("3 TURNS done.");
        edges.left("about(3)", 1, Edges.NOTHING, y -> y.about(3));
        x = Edges.full();
        x.turn(24, 1);
        x.turn(4, 1);
        x.turn(FREE, 1);
        edges.is("those that were not done", x.about(3), 1);
        x.turn(TONE, 0);
        x.turn(BELL, 1);
        edges.is("those of two voices, by 0, too", x.about(3), 3);
    }

    private static void aboutOutside() {
        edges.says("OUTSIDE.");
        edges.refused("about(v)", OUTSIDE, (x, v) -> x.about(v), -1, 4, 5, LEAST, MOST);
    }

    /** What is due when box 0 tells the first numbers, box 23 the last, and the 22 boxes between them nothing. */
    private static long due(long[] first, long[] last) {
        long h = 17;
        for (long number : first) h = 31 * h + number;
        for (int b = 1; b < 23; b++) h = 31 * h - 1;
        for (long number : last) h = 31 * h + number;
        return h;
    }

    private static final long[] NO = {-1};

    private static void digestBegins() {
        edges.promise(33);
        edges.says("h is 17, then for each of these numbers, in order, 31 times h, and it (as longs, wrapping): "
                + "of each BOX what what() tells;");
        edges.is("of a new one", new PatchAsks().digest(), due(NO, NO));
        edges.left("digest()", Edges.full().digest(), Edges.NOTHING, PatchAsks::digest);
        PatchAsks x = new PatchAsks();
        x.curve(0, 5, 2);
        x.write(0, 5, 0, Long.MAX_VALUE);
        x.write(0, 5, 1, Long.MIN_VALUE);
        x.sheet(23, 0, 5);
        edges.is("in order", x.digest(), due(new long[] {5, 2, Long.MAX_VALUE, Long.MIN_VALUE}, new long[] {8, 0}));
        x.share(0, 23);
        x.clear(0);
        edges.is("in the last box", x.digest(), due(NO, new long[] {5, 2, Long.MAX_VALUE, Long.MIN_VALUE}));
    }

    private static void digestOfCurves() {
        edges.says("of a CURVE how many numbers, their WORDS;");
        for (int lane = 0; lane <= 7; lane++) {
            PatchAsks x = new PatchAsks();
            x.curve(0, lane, 3);
            x.curve(23, lane, 0);
            for (int i = 0; i < 3; i++) x.write(0, lane, i, Edges.wordIn(lane, i));
            long[] want = {lane, 3, Edges.wordIn(lane, 0), Edges.wordIn(lane, 1), Edges.wordIn(lane, 2)};
            edges.is("lane " + lane, x.digest(), due(want, new long[] {lane, 0}));
        }
        PatchAsks x = new PatchAsks();
        x.curve(0, 2, 1);
        x.write(0, 2, 0, -1);
        x.curve(23, 6, 1);
        x.write(23, 6, 0, 0x80000000L);
        edges.is("a char, a float", x.digest(), due(new long[] {2, 1, 65535}, new long[] {6, 1, LEAST}));
    }

    private static void digestOfSheets() {
        edges.says("of a SHEET how many LINES, of each -1 (NOTHING), or how many ints, these;");
        PatchAsks x = new PatchAsks();
        x.sheet(0, 3, 2);
        x.rule(0, 0, 1, LEAST);
        x.rule(0, 2, 0, 7);
        x.lay(0, 1, 9);
        x.sheet(23, 2, 0);
        edges.is("with a LINE of NOTHING", x.digest(),
                due(new long[] {8, 3, 2, 0, LEAST, -1, 2, 7, 0}, new long[] {8, 2, 0, 0}));
        x.curve(23, 4, 3);
        x.write(23, 4, 2, 5);
        x.lay(0, 1, 23);
        x.rule(0, 1, 0, 4);
        edges.is("with a CURVE's row", x.digest(),
                due(new long[] {8, 3, 2, 0, LEAST, 3, 4, 0, 5, 2, 7, 0}, new long[] {4, 3, 4, 0, 5}));
    }

    private static void digestOfBanks() {
        edges.says("of a BANK how many places, of each the VOICE's number, or -1;");
        PatchAsks x = new PatchAsks();
        x.bank(0, 3, 3);
        x.bank(23, 6, 0);
        x.voice(1, 5);
        x.voice(1, 4);
        x.set(0, 0, 1);
        x.set(0, 2, 1);
        x.voice(1, 3);
        x.set(0, 2, 1);
        x.clear(1);
        edges.is("with a place of NOTHING", x.digest(), due(new long[] {13, 3, 1, -1, 2}, new long[] {16, 0}));
    }

    private static void digestOfVoices() {
        edges.says("of a VOICE its number, LEVEL, OWN LEVEL (0, if it is no BELL), SKIN (0, if it is no DRUM), EDITS, "
                + "1 if it has a TROUBLE, else 0.");
        for (int kind = 0; kind <= 5; kind++) {
            PatchAsks x = new PatchAsks();
            x.voice(23, 0);
            x.voice(0, kind);
            x.raise(0, 0, 5);
            x.raise(0, 1, 6);
            x.raise(0, 2, 7);
            long own = kind == 1 || kind == 2 ? 6 : 0, skin = kind == 5 ? 7 : 0;
            long[] tone = {20, 0, 0, 0, 0, 0, 0};
            edges.is("kind " + kind, x.digest(), due(new long[] {20 + kind, 1, 5, own, skin, 0, 0}, tone));
            x.arm(0, true);
            x.turn(0, 2);
            x.turn(0, -2);
            edges.is("kind " + kind + ", edited, troubled", x.digest(), due(new long[] {20 + kind, 1, 5, own, skin, 2, 1}, tone));
            x.arm(0, false);
            x.share(0, 23);
            long[] twice = {20 + kind, 1, 5, own, skin, 2, 0};
            edges.is("kind " + kind + ", in two boxes", x.digest(), due(twice, twice));
        }
    }
}
