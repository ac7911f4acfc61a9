/** The edges of promises 1 to 10, sentence by sentence. */
public final class EdgesThingsTest {
    private static final int LEAST = Edges.LEAST, MOST = Edges.MOST, FREE = Edges.FREE;
    private static final int OUTSIDE = Edges.OUTSIDE, SIZE = Edges.SIZE;
    private static final int MADE = Edges.BOXES | Edges.HELD;
    private static Edges edges;

    public static void main(String[] args) throws Exception {
        edges = new Edges("EdgesThingsTest");
        newObject();
        curve();
        curveRefused();
        sheet();
        sheetRefused();
        bank();
        bankRefused();
        voice();
        voiceRefused();
        share();
        clear();
        what();
        isCurveSheetBank();
        isVoiceAndHeard();
        isRefused();
        width();
        widthRefused();
        edges.end();
    }

    private static void newObject() {
        edges.promise(1);
        edges.says("Nothing in the BOXES;");
        PatchAsks x = new PatchAsks();
        for (int b = 0; b <= 23; b++) {
            edges.is("what(" + b + ")", x.what(b), -1);
            edges.is("width(" + b + ", 0)", x.width(b, 0), Edges.NULL);
        }
        edges.is("about(2)", x.about(2), 0);
        edges.is("what(-1)", x.what(-1), Edges.UNKNOWN);
        edges.is("what(24)", x.what(24), Edges.UNKNOWN);
        edges.says("no VOICES.");
        edges.is("about(0)", x.about(0), 0);
        edges.is("the first voice(0, 0)", x.voice(0, 0), 0);
        PatchAsks other = new PatchAsks();
        edges.is("another object's first voice(0, 5)", other.voice(0, 5), 0);
        edges.is("another object's what(1)", other.what(1), -1);
    }

    private static void curve() {
        edges.promise(2);
        edges.says("A BOX holds a new CURVE of a LANE with n numbers: n.");
        for (int lane = 0; lane <= 7; lane++) {
            for (int n : new int[] {0, 1, 16}) curveOf(lane, n);
        }
        for (int b = 0; b <= 23; b++) {
            int box = b;
            edges.left("curve(" + b + ", 7, 16)", 16, MADE, x -> x.curve(box, 7, 16));
        }
        PatchAsks x = Edges.full();
        x.share(4, FREE);
        x.curve(4, 4, 3);
        edges.sees(x, "read of the new one", x.read(4, 4, 0), 0);
        edges.sees(x, "read of the old one", x.read(FREE, 4, 0), 90);
        x.write(4, 4, 0, 1);
        edges.sees(x, "the old one is apart", x.read(FREE, 4, 0), 90);
    }

    private static void curveOf(int lane, int n) {
        PatchAsks x = Edges.full();
        String call = "curve(v, " + lane + ", " + n + ")";
        for (int b : new int[] {0, lane, Edges.SHEET, Edges.BELLS, Edges.TONE, FREE, 23}) {
            edges.is(call + ", v = " + b, x.curve(b, lane, n), n);
            edges.is(call + ", what then", x.what(b), lane);
            edges.is(call + ", width then", x.width(b, lane), n);
            if (n > 0) edges.sees(x, call + ", the last one", x.read(b, lane, n - 1), 0);
            edges.is(call + ", none behind it", x.read(b, lane, n), Edges.INDEX);
        }
    }

    private static void curveRefused() {
        edges.says("UNKNOWN;");
        edges.unknown("curve(v, 0, 3)", (x, v) -> x.curve(v, 0, 3));
        edges.unknown("curve(v, 8, -1)", (x, v) -> x.curve(v, 8, -1));
        edges.unknown("curve(v, 0, 17)", (x, v) -> x.curve(v, 0, 17));
        edges.says("OUTSIDE: LANE, n is above 16;");
        edges.refused("curve(0, v, 3)", OUTSIDE, (x, v) -> x.curve(0, v, 3), -1, 8, 9, LEAST, MOST);
        edges.refused("curve(0, v, -1)", OUTSIDE, (x, v) -> x.curve(0, v, -1), -1, 8, LEAST, MOST);
        edges.refused("curve(4, 4, v)", OUTSIDE, (x, v) -> x.curve(4, 4, v), 17, 18, MOST);
        edges.says("SIZE.");
        edges.refused("curve(4, 4, v)", SIZE, (x, v) -> x.curve(4, 4, v), -1, -2, -17, LEAST);
        edges.refused("curve(19, 7, v)", SIZE, (x, v) -> x.curve(FREE, 7, v), -1, LEAST);
    }

    private static void sheet() {
        edges.promise(3);
        edges.says("A BOX holds a new SHEET of n LINES with m ints each, all 0: n.");
        for (int n : new int[] {0, 1, 8}) {
            for (int m : new int[] {0, 1, 8}) sheetOf(n, m);
        }
        edges.left("sheet(19, 8, 8)", 8, MADE, x -> x.sheet(FREE, 8, 8));
        PatchAsks x = new PatchAsks();
        x.sheet(0, 8, 8);
        x.share(0, 1);
        for (int i = 0; i < 8; i++) x.rule(0, i, 7, 40 + i);
        for (int i = 0; i < 8; i++) edges.sees(x, "each line is its own", x.line(0, i, 7), 40 + i);
        x.sheet(0, 8, 8);
        edges.sees(x, "the new one", x.line(0, 7, 7), 0);
        edges.sees(x, "the old one", x.line(1, 7, 7), 47);
    }

    private static void sheetOf(int n, int m) {
        PatchAsks x = Edges.full();
        String call = "sheet(v, " + n + ", " + m + ")";
        for (int b : new int[] {0, Edges.SHEET, Edges.BELLS, Edges.TONE, 23}) {
            edges.is(call + ", v = " + b, x.sheet(b, n, m), n);
            edges.is(call + ", width then", x.width(b, 8), n);
            edges.is(call + ", no line behind it", x.line(b, n, 0), Edges.INDEX);
            for (int i = 0; i < n; i++) {
                if (m > 0) edges.sees(x, call + ", the last int", x.line(b, i, m - 1), 0);
                edges.is(call + ", no int behind it", x.line(b, i, m), Edges.INDEX);
            }
        }
    }

    private static void sheetRefused() {
        edges.says("UNKNOWN;");
        edges.unknown("sheet(v, 1, 1)", (x, v) -> x.sheet(v, 1, 1));
        edges.unknown("sheet(v, 9, -1)", (x, v) -> x.sheet(v, 9, -1));
        edges.unknown("sheet(v, -1, 1)", (x, v) -> x.sheet(v, -1, 1));
        edges.says("OUTSIDE: n is above 8, m is not 0 .. 8;");
        edges.refused("sheet(8, v, 0)", OUTSIDE, (x, v) -> x.sheet(8, v, 0), 9, 10, MOST);
        edges.refused("sheet(8, 0, v)", OUTSIDE, (x, v) -> x.sheet(8, 0, v), -1, 9, LEAST, MOST);
        edges.refused("sheet(8, -1, v)", OUTSIDE, (x, v) -> x.sheet(8, -1, v), -1, 9, LEAST, MOST);
        edges.says("SIZE (n).");
        edges.refused("sheet(8, v, 0)", SIZE, (x, v) -> x.sheet(8, v, 0), -1, -2, LEAST);
        edges.refused("sheet(19, v, 8)", SIZE, (x, v) -> x.sheet(FREE, v, 8), -1, LEAST);
    }

    private static void bank() {
        edges.promise(4);
        edges.says("A BOX holds a new BANK of a KIND (0 .. 6) with n places: n.");
        for (int kind = 0; kind <= 6; kind++) {
            for (int n : new int[] {0, 1, 8}) bankOf(kind, n);
        }
        edges.left("bank(19, 6, 8)", 8, MADE, x -> x.bank(FREE, 6, 8));
        PatchAsks x = Edges.full();
        x.share(Edges.BELLS, FREE);
        x.bank(Edges.BELLS, 1, 3);
        edges.is("the new one", x.get(Edges.BELLS, 0), -1);
        edges.is("the old one", x.get(FREE, 0), 1);
    }

    private static void bankOf(int kind, int n) {
        PatchAsks x = Edges.full();
        String call = "bank(v, " + kind + ", " + n + ")";
        for (int b : new int[] {0, Edges.SHEET, Edges.BELLS, Edges.TONE, 23}) {
            edges.is(call + ", v = " + b, x.bank(b, kind, n), n);
            edges.is(call + ", what then", x.what(b), 10 + kind);
            edges.is(call + ", width then", x.width(b, 9), n);
            for (int i = 0; i < n; i++) edges.is(call + ", place " + i, x.get(b, i), -1);
            edges.is(call + ", no place behind it", x.get(b, n), Edges.INDEX);
        }
    }

    private static void bankRefused() {
        edges.says("UNKNOWN;");
        edges.unknown("bank(v, 0, 1)", (x, v) -> x.bank(v, 0, 1));
        edges.unknown("bank(v, 7, 9)", (x, v) -> x.bank(v, 7, 9));
        edges.unknown("bank(v, 0, -1)", (x, v) -> x.bank(v, 0, -1));
        edges.says("OUTSIDE: KIND, n is above 8;");
        edges.refused("bank(9, v, 1)", OUTSIDE, (x, v) -> x.bank(9, v, 1), -1, 7, 8, LEAST, MOST);
        edges.refused("bank(9, v, -1)", OUTSIDE, (x, v) -> x.bank(9, v, -1), -1, 7, LEAST, MOST);
        edges.refused("bank(9, 6, v)", OUTSIDE, (x, v) -> x.bank(9, 6, v), 9, 10, MOST);
        edges.says("SIZE.");
        edges.refused("bank(9, 6, v)", SIZE, (x, v) -> x.bank(9, 6, v), -1, -2, LEAST);
        edges.refused("bank(19, 0, v)", SIZE, (x, v) -> x.bank(FREE, 0, v), -1, LEAST);
    }

    private static void voice() {
        edges.promise(5);
        edges.says("A BOX holds a new VOICE of a KIND (0 .. 5): its number.");
        for (int kind = 0; kind <= 5; kind++) {
            int k = kind;
            for (int b : new int[] {0, Edges.SHEET, Edges.BELLS, Edges.TONE, 23}) {
                edges.left("voice(" + b + ", " + kind + ")", 6, MADE | Edges.VOICES, x -> x.voice(b, k));
                PatchAsks x = Edges.full();
                x.voice(b, kind);
                edges.is("what(" + b + ") then", x.what(b), 20 + kind);
                edges.sees(x, "its level", x.level(b, 0), 0);
                edges.sees(x, "its number", x.ask(b, 5), 6);
                edges.is("about(0) then", x.about(0), 7);
            }
        }
        PatchAsks x = Edges.full();
        x.voice(Edges.BELL, 1);
        edges.is("a new one has no trouble", x.fail(Edges.BELL), Edges.NULL);
        edges.sees(x, "a new one's OWN LEVEL", x.level(Edges.BELL, 1), 0);
        x.take(Edges.BELLS, 0, FREE);
        edges.sees(x, "the old one's OWN LEVEL", x.level(FREE, 1), 201);
    }

    private static void voiceRefused() {
        edges.says("UNKNOWN;");
        edges.unknown("voice(v, 0)", (x, v) -> x.voice(v, 0));
        edges.unknown("voice(v, 6)", (x, v) -> x.voice(v, 6));
        edges.says("OUTSIDE;");
        edges.refused("voice(10, v)", OUTSIDE, (x, v) -> x.voice(10, v), -1, 6, 7, LEAST, MOST);
        edges.says("FULL.");
        PatchAsks x = new PatchAsks();
        for (int k = 0; k < 40; k++) edges.is("voice " + k, x.voice(k % 2, k % 6), k);
        long h = x.digest();
        for (int kind = 0; kind <= 5; kind++) edges.is("voice(0, " + kind + ") is one too many", x.voice(0, kind), Edges.FULL);
        edges.is("OUTSIDE comes ahead", x.voice(0, 6), OUTSIDE);
        edges.is("OUTSIDE comes ahead", x.voice(0, -1), OUTSIDE);
        edges.is("UNKNOWN comes ahead", x.voice(24, 0), Edges.UNKNOWN);
        edges.is("digest() then", x.digest(), h);
        edges.is("about(0) then", x.about(0), 40);
        edges.is("finding() then", x.finding(), 0);
        x.clear(0);
        x.clear(1);
        edges.is("cleared boxes make no room", x.voice(0, 0), Edges.FULL);
    }

    private static void share() {
        edges.promise(6);
        edges.says("BOX c holds what BOX b holds (perhaps NOTHING): as what(c) tells then.");
        for (int b = 0; b <= 23; b++) {
            int box = b;
            int code = Edges.full().what(b);
            edges.left("share(" + b + ", 23)", code, MADE, x -> x.share(box, 23));
            edges.left("share(" + b + ", " + b + ")", code, Edges.NOTHING, x -> x.share(box, box));
            PatchAsks x = Edges.full();
            edges.is("share(" + b + ", 0)", x.share(b, 0), code);
            edges.is("what(0) then", x.what(0), code);
            edges.is("what(" + b + ") then", x.what(b), code);
        }
        PatchAsks x = Edges.full();
        x.share(Edges.SHEET, FREE);
        x.rule(FREE, 0, 1, 6);
        edges.sees(x, "the same sheet", x.line(Edges.SHEET, 0, 1), 6);
        x.share(Edges.BELLS, FREE);
        x.set(FREE, 0, 23);
        edges.is("the same bank", x.get(Edges.BELLS, 0), -1);
        x.share(Edges.DRUM, FREE);
        x.raise(FREE, 2, -6);
        edges.sees(x, "the same voice", x.level(Edges.DRUM, 2), -6);
        edges.says("UNKNOWN: either.");
        edges.unknown("share(v, 0)", (y, v) -> y.share(v, 0));
        edges.unknown("share(0, v)", (y, v) -> y.share(0, v));
        edges.unknown("share(19, v)", (y, v) -> y.share(FREE, v));
        edges.unknown("share(v, v)", (y, v) -> y.share(v, v));
    }

    private static void clear() {
        edges.promise(7);
        edges.says("A BOX holds NOTHING: what what() told.");
        for (int b = 0; b <= 23; b++) {
            int box = b;
            int code = Edges.full().what(b);
            edges.left("clear(" + b + ")", code, code < 0 ? Edges.NOTHING : MADE, x -> x.clear(box));
            PatchAsks x = Edges.full();
            int held = x.about(2);
            x.clear(b);
            edges.is("what(" + b + ") then", x.what(b), -1);
            edges.is("clear(" + b + ") once more", x.clear(b), -1);
            edges.is("BOXES that hold something", x.about(2), code < 0 ? held : held - 1);
        }
        edges.says("UNKNOWN.");
        edges.unknown("clear(v)", (x, v) -> x.clear(v));
    }

    private static void what() {
        edges.promise(8);
        edges.says("What a BOX holds: NONE: NOTHING;");
        for (int b = FREE; b <= 23; b++) edges.is("what(" + b + ")", Edges.full().what(b), -1);
        edges.says("the LANE of a CURVE;");
        for (int b = 0; b <= 7; b++) edges.is("what(" + b + ")", Edges.full().what(b), b);
        edges.is("of no numbers", Edges.full().what(Edges.NO_INTS), 4);
        edges.says("8 a SHEET;");
        edges.is("what(8)", Edges.full().what(8), 8);
        edges.is("of no lines", Edges.full().what(Edges.NO_LINES), 8);
        edges.says("10 more than the KIND of a BANK;");
        for (int kind = 0; kind <= 6; kind++) {
            PatchAsks x = new PatchAsks();
            x.bank(23, kind, 0);
            edges.is("kind " + kind, x.what(23), 10 + kind);
        }
        edges.says("20 more than the KIND of a VOICE.");
        for (int kind = 0; kind <= 5; kind++) edges.is("kind " + kind, Edges.full().what(Edges.TONE + kind), 20 + kind);
        for (int b = 0; b <= 23; b++) {
            int box = b;
            edges.left("what(" + b + ")", Edges.full().what(b), Edges.NOTHING, x -> x.what(box));
        }
        edges.says("UNKNOWN.");
        edges.unknown("what(v)", (x, v) -> x.what(v));
    }

    /** For a box of full(): which questions are answered by 1. */
    private static void yesAlone(int b, int... yes) {
        for (int q = 0; q <= 32; q++) {
            if (q == 9 || q >= 17 && q <= 19 || q >= 27 && q <= 29) continue;
            int asked = q, want = 0;
            for (int y : yes) if (y == q) want = 1;
            edges.left("is(" + b + ", " + q + ")", want, Edges.NOTHING, x -> x.is(b, asked));
        }
    }

    private static void bankYes(int kind, int... yes) {
        PatchAsks x = new PatchAsks();
        x.bank(0, kind, kind);
        for (int q = 0; q <= 32; q++) {
            if (q == 9 || q >= 17 && q <= 19 || q >= 27 && q <= 29) continue;
            int want = 0;
            for (int y : yes) if (y == q) want = 1;
            edges.is("a bank of kind " + kind + ", is(0, " + q + ")", x.is(0, q), want);
        }
    }

    private static void isCurveSheetBank() {
        edges.promise(9);
        edges.says("Whether a BOX holds (1, 0):");
        yesAlone(FREE);
        edges.says("q = 0 .. 7 a CURVE of that LANE;");
        for (int lane = 0; lane <= 7; lane++) yesAlone(lane, lane);
        yesAlone(Edges.NO_INTS, 4);
        edges.says("8 a SHEET;");
        yesAlone(Edges.SHEET, 8);
        yesAlone(Edges.NO_LINES, 8);
        edges.says("10 more than a KIND 0 .. 6: a BANK of that KIND, or of one that is such, too;");
        bankYes(0, 10, 16, 32);
        bankYes(1, 10, 11, 16, 32);
        bankYes(2, 10, 11, 12, 16, 32);
        bankYes(3, 13, 16);
        bankYes(4, 13, 14, 16);
        bankYes(5, 13, 15, 16, 32);
        bankYes(6, 16);
        yesAlone(Edges.NO_PLACES, 16);
    }

    private static void isVoiceAndHeard() {
        edges.says("20 more than a KIND 0 .. 6: a VOICE that is such;");
        yesAlone(Edges.TONE, 20, 26, 30);
        yesAlone(Edges.BELL, 20, 21, 26, 30);
        yesAlone(Edges.CHIME, 20, 21, 22, 26, 30);
        yesAlone(Edges.NOISE, 23, 26);
        yesAlone(Edges.WIND, 23, 24, 26);
        yesAlone(Edges.DRUM, 23, 25, 26, 30);
        edges.says("30 a VOICE that is HEARD;");
        int[] heard = {1, 1, 1, 0, 0, 1};
        for (int kind = 0; kind <= 5; kind++) edges.is("kind " + kind, Edges.full().is(Edges.TONE + kind, 30), heard[kind]);
        edges.is("a bank of BELLS is no VOICE", Edges.full().is(Edges.BELLS, 30), 0);
        edges.says("31 what can be compared (nothing here can);");
        for (int b = 0; b <= 23; b++) edges.is("is(" + b + ", 31)", Edges.full().is(b, 31), 0);
        edges.says("32 a BANK of a KIND that is HEARD.");
        edges.is("a bank of BELLS", Edges.full().is(Edges.BELLS, 32), 1);
        edges.is("a bank of any VOICE", Edges.full().is(Edges.NO_PLACES, 32), 0);
        edges.is("a BELL is no bank", Edges.full().is(Edges.BELL, 32), 0);
    }

    private static void isRefused() {
        edges.says("UNKNOWN;");
        edges.unknown("is(v, 0)", (x, v) -> x.is(v, 0));
        edges.unknown("is(v, 33)", (x, v) -> x.is(v, 33));
        edges.says("OUTSIDE: another q.");
        for (int b : new int[] {0, Edges.BELLS, Edges.TONE, FREE}) {
            edges.refused("is(" + b + ", v)", OUTSIDE, (x, v) -> x.is(b, v),
                    -1, 9, 17, 18, 19, 27, 28, 29, 33, 34, LEAST, MOST);
        }
    }

    private static void width() {
        edges.promise(10);
        edges.says("How many numbers, LINES, places: of a CURVE of a LANE (sort = 0 .. 7), a SHEET (8), a BANK (9).");
        for (int sort = 0; sort <= 9; sort++) {
            int s = sort;
            edges.left("width(" + sort + ", " + sort + ")", 3, Edges.NOTHING, x -> x.width(s, s));
        }
        edges.left("width of no numbers", 0, Edges.NOTHING, x -> x.width(Edges.NO_INTS, 4));
        edges.left("width of no lines", 0, Edges.NOTHING, x -> x.width(Edges.NO_LINES, 8));
        edges.left("width of no places", 0, Edges.NOTHING, x -> x.width(Edges.NO_PLACES, 9));
        PatchAsks x = new PatchAsks();
        for (int n = 0; n <= 16; n++) {
            x.curve(0, 0, n);
            edges.is("width of " + n + " truths", x.width(0, 0), n);
        }
        for (int n = 0; n <= 8; n++) {
            x.sheet(0, n, 8 - n);
            edges.is("width of " + n + " lines", x.width(0, 8), n);
            x.bank(0, 6, n);
            edges.is("width of " + n + " places", x.width(0, 9), n);
        }
    }

    private static void widthRefused() {
        edges.says("UNKNOWN;");
        edges.unknown("width(v, 0)", (x, v) -> x.width(v, 0));
        edges.unknown("width(v, 10)", (x, v) -> x.width(v, 10));
        edges.says("OUTSIDE: sort;");
        for (int b : new int[] {0, 9, Edges.TONE, FREE}) {
            edges.refused("width(" + b + ", v)", OUTSIDE, (x, v) -> x.width(b, v), -1, 10, 11, LEAST, MOST);
        }
        edges.says("NULL;");
        edges.refused("width(19, v)", Edges.NULL, (x, v) -> x.width(FREE, v), 0, 1, 2, 3, 4, 5, 6, 7, 8, 9);
        edges.says("CAST.");
        for (int b = 0; b <= Edges.DRUM; b++) {
            for (int sort = 0; sort <= 9; sort++) {
                int box = b, s = sort;
                if (b != sort) edges.refused("width(" + b + ", " + sort + ")", Edges.CAST, x -> x.width(box, s));
            }
        }
    }
}
