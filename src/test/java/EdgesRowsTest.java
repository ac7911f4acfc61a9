/** The edges of promises 17 to 22, sentence by sentence. */
public final class EdgesRowsTest {
    private static final int LEAST = Edges.LEAST, MOST = Edges.MOST, FREE = Edges.FREE;
    private static final int NULL = Edges.NULL, INDEX = Edges.INDEX, CAST = Edges.CAST, STORE = Edges.STORE;
    private static final int SHEET = Edges.SHEET, BELLS = Edges.BELLS, BELL = Edges.BELL, CHIME = Edges.CHIME;
    private static final int[] NO_PLACE = {-1, 3, 4, LEAST, MOST};
    private static final int[] NO_SHEETS = {0, 4, 7, BELLS, Edges.TONE, Edges.DRUM, Edges.NO_PLACES, Edges.NO_INTS};
    private static final int[] NO_BANKS = {0, 4, 7, SHEET, Edges.TONE, Edges.DRUM, Edges.NO_LINES, Edges.NO_INTS};
    private static Edges edges;

    public static void main(String[] args) throws Exception {
        edges = new Edges("EdgesRowsTest");
        line();
        lineRefused();
        rule();
        ruleRefused();
        lay();
        laySame();
        layRefused();
        set();
        setRefused();
        setStore();
        get();
        take();
        takeRefused();
        edges.end();
    }

    private static void line() {
        edges.promise(17);
        edges.says("SEEN becomes int k of LINE i: 0.");
        edges.left("line(8, 0, 0)", 0, Edges.SEEN, x -> x.line(SHEET, 0, 0));
        PatchAsks x = Edges.full();
        edges.sees(x, "line(8, 0, 0)", x.line(SHEET, 0, 0), 11);
        edges.sees(x, "line(8, 0, 2)", x.line(SHEET, 0, 2), 0);
        edges.sees(x, "line(8, 2, 2)", x.line(SHEET, 2, 2), 22);
        x = new PatchAsks();
        x.sheet(23, 8, 8);
        for (int i = 0; i < 8; i++) {
            for (int k = 0; k < 8; k++) x.rule(23, i, k, 10 * i + k);
        }
        for (int i = 0; i < 8; i++) {
            for (int k = 0; k < 8; k++) edges.sees(x, "line(23, " + i + ", " + k + ")", x.line(23, i, k), 10 * i + k);
        }
    }

    private static void lineRefused() {
        edges.says("UNKNOWN;");
        edges.unknown("line(v, 0, 0)", (x, v) -> x.line(v, 0, 0));
        edges.unknown("line(v, 9, 9)", (x, v) -> x.line(v, 9, 9));
        edges.says("CAST: the BOX holds something that is no SHEET;");
        edges.refused("line(v, 0, 0)", CAST, (x, v) -> x.line(v, 0, 0), NO_SHEETS);
        edges.refused("line(v, -1, 9)", CAST, (x, v) -> x.line(v, -1, 9), NO_SHEETS);
        edges.says("NULL: NOTHING;");
        edges.refused("line(v, 0, 0)", NULL, (x, v) -> x.line(v, 0, 0), 19, 20, 21, 22, 23);
        edges.refused("line(19, v, v)", NULL, (x, v) -> x.line(FREE, v, v), NO_PLACE);
        edges.says("INDEX: i;");
        edges.refused("line(8, v, 0)", INDEX, (x, v) -> x.line(SHEET, v, 0), NO_PLACE);
        edges.refused("line(8, v, 9)", INDEX, (x, v) -> x.line(SHEET, v, 9), NO_PLACE);
        edges.refused("line(18, v, 0) of no lines", INDEX, (x, v) -> x.line(Edges.NO_LINES, v, 0), 0, -1, LEAST, MOST);
        edges.says("NULL: the LINE;");
        edges.refused("line(8, 1, v)", NULL, (x, v) -> x.line(SHEET, 1, v), 0, 1, 2, -1, 3, LEAST, MOST);
        edges.says("INDEX: k.");
        edges.refused("line(8, 0, v)", INDEX, (x, v) -> x.line(SHEET, 0, v), NO_PLACE);
        edges.refused("line(8, 2, v)", INDEX, (x, v) -> x.line(SHEET, 2, v), NO_PLACE);
        PatchAsks x = new PatchAsks();
        x.sheet(0, 2, 0);
        for (int k : new int[] {0, -1, LEAST, MOST}) edges.is("a line of no ints, at " + k, x.line(0, 1, k), INDEX);
        x.curve(1, 4, 16);
        x.lay(0, 0, 1);
        edges.is("the last of 16 ints", x.line(0, 0, 15), 0);
        edges.is("none behind it", x.line(0, 0, 16), INDEX);
        edges.is("lines have widths of their own", x.line(0, 1, 0), INDEX);
    }

    private static void rule() {
        edges.promise(18);
        edges.says("Int k of LINE i becomes v: 0.");
        edges.left("rule(8, 2, 0, 5)", 0, Edges.BOXES, x -> x.rule(SHEET, 2, 0, 5));
        for (int v : new int[] {0, 1, -1, LEAST, MOST}) {
            PatchAsks x = Edges.full();
            edges.is("rule(8, 2, 2, " + v + ")", x.rule(SHEET, 2, 2, v), 0);
            edges.sees(x, "line(8, 2, 2) then", x.line(SHEET, 2, 2), v);
            edges.sees(x, "line(8, 2, 1) then", x.line(SHEET, 2, 1), 0);
            edges.sees(x, "line(8, 0, 0) then", x.line(SHEET, 0, 0), 11);
        }
    }

    private static void ruleRefused() {
        edges.says("As line().");
        edges.unknown("rule(v, 0, 0, 1)", (x, v) -> x.rule(v, 0, 0, 1));
        edges.unknown("rule(v, 9, 9, 1)", (x, v) -> x.rule(v, 9, 9, 1));
        edges.refused("rule(v, 0, 0, 1)", CAST, (x, v) -> x.rule(v, 0, 0, 1), NO_SHEETS);
        edges.refused("rule(v, -1, 9, 1)", CAST, (x, v) -> x.rule(v, -1, 9, 1), NO_SHEETS);
        edges.refused("rule(v, 0, 0, 1)", NULL, (x, v) -> x.rule(v, 0, 0, 1), 19, 20, 21, 22, 23);
        edges.refused("rule(19, v, v, 1)", NULL, (x, v) -> x.rule(FREE, v, v, 1), NO_PLACE);
        edges.refused("rule(8, v, 0, 1)", INDEX, (x, v) -> x.rule(SHEET, v, 0, 1), NO_PLACE);
        edges.refused("rule(8, v, 9, 1)", INDEX, (x, v) -> x.rule(SHEET, v, 9, 1), NO_PLACE);
        edges.refused("rule(18, v, 0, 1)", INDEX, (x, v) -> x.rule(Edges.NO_LINES, v, 0, 1), 0, -1, LEAST, MOST);
        edges.refused("rule(8, 1, v, 1)", NULL, (x, v) -> x.rule(SHEET, 1, v, 1), 0, 1, 2, -1, 3, LEAST, MOST);
        edges.refused("rule(8, 0, v, 1)", INDEX, (x, v) -> x.rule(SHEET, 0, v, 1), NO_PLACE);
        PatchAsks x = new PatchAsks();
        x.sheet(0, 2, 0);
        for (int k : new int[] {0, -1, LEAST, MOST}) edges.is("a line of no ints, at " + k, x.rule(0, 1, k, 1), INDEX);
    }

    private static void lay() {
        edges.promise(19);
        edges.says("LINE i becomes the row of the CURVE of ints in BOX c, ");
        for (int i = 0; i < 3; i++) {
            int at = i;
            edges.left("lay(8, " + i + ", 4)", 0, Edges.BOXES, x -> x.lay(SHEET, at, 4));
            PatchAsks x = Edges.full();
            x.lay(SHEET, i, 4);
            edges.sees(x, "line(8, " + i + ", 2) then", x.line(SHEET, i, 2), 92);
            edges.is("width(8, 8) then", x.width(SHEET, 8), 3);
            edges.is("what(4) then", x.what(4), 4);
        }
        PatchAsks x = Edges.full();
        edges.is("a row of no ints", x.lay(SHEET, 0, Edges.NO_INTS), 0);
        edges.is("is there, but has none", x.line(SHEET, 0, 0), INDEX);
        x.grow(Edges.NO_INTS, 16);
        x.write(Edges.NO_INTS, 4, 15, 6);
        edges.is("a row of 16 ints", x.lay(SHEET, 0, Edges.NO_INTS), 0);
        edges.sees(x, "its last one", x.line(SHEET, 0, 15), 6);
        edges.says("or NOTHING, if that holds NOTHING: 0.");
        edges.left("lay(8, 0, 23)", 0, Edges.BOXES, y -> y.lay(SHEET, 0, 23));
        edges.left("lay(8, 1, 23) where NOTHING is", 0, Edges.NOTHING, y -> y.lay(SHEET, 1, 23));
        x.lay(SHEET, 0, 23);
        edges.is("line(8, 0, 0) then", x.line(SHEET, 0, 0), NULL);
        edges.is("width(8, 8) then", x.width(SHEET, 8), 3);
        x.lay(SHEET, 0, 4);
        edges.is("laid again", x.line(SHEET, 0, 0), 0);
    }

    private static void laySame() {
        edges.says("the very same,");
        PatchAsks x = Edges.full();
        x.lay(SHEET, 0, 4);
        x.lay(SHEET, 2, 4);
        x.rule(SHEET, 0, 1, 61);
        edges.sees(x, "ruled, then read", x.read(4, 4, 1), 61);
        edges.sees(x, "ruled, then on another line", x.line(SHEET, 2, 1), 61);
        x.write(4, 4, 1, 62);
        edges.sees(x, "written, then on a line", x.line(SHEET, 0, 1), 62);
        x.copy(4, 1, 4, 0, 1);
        edges.sees(x, "copied, then on a line", x.line(SHEET, 0, 0), 62);
        x.curve(FREE, 4, 3);
        x.copy(FREE, 0, 4, 2, 1);
        edges.sees(x, "copied from another, then on a line", x.line(SHEET, 2, 2), 0);
        edges.sees(x, "shaped as ruled", x.shape(4, 1, 5, 0), 62);
        x.share(4, 20);
        x.clear(4);
        x.rule(SHEET, 2, 1, LEAST);
        edges.sees(x, "the box cleared, another has it", x.read(20, 4, 1), LEAST);
        x.clear(20);
        edges.sees(x, "no box has it", x.line(SHEET, 0, 1), LEAST);
        x.lay(SHEET, 0, 23);
        edges.sees(x, "the other line stays", x.line(SHEET, 2, 1), LEAST);
    }

    private static void layRefused() {
        edges.says("UNKNOWN: either;");
        edges.unknown("lay(v, 0, 4)", (x, v) -> x.lay(v, 0, 4));
        edges.unknown("lay(8, 0, v)", (x, v) -> x.lay(SHEET, 0, v));
        edges.unknown("lay(4, 9, v)", (x, v) -> x.lay(4, 9, v));
        edges.unknown("lay(v, 9, v)", (x, v) -> x.lay(v, 9, v));
        edges.says("CAST: BOX b holds something that is no SHEET;");
        for (int c : new int[] {4, 5, FREE}) {
            edges.refused("lay(v, 9, " + c + ")", CAST, (x, v) -> x.lay(v, 9, c), NO_SHEETS);
        }
        edges.says("CAST: BOX c something that is no CURVE of ints;");
        for (int c : new int[] {0, 1, 2, 3, 5, 6, 7, SHEET, BELLS, Edges.TONE, Edges.DRUM, Edges.NO_PLACES}) {
            edges.refused("lay(8, v, " + c + ")", CAST, (x, v) -> x.lay(SHEET, v, c), 0, 9);
            edges.refused("lay(19, v, " + c + ")", CAST, (x, v) -> x.lay(FREE, v, c), 0, 9);
        }
        edges.says("NULL: BOX b holds NOTHING;");
        edges.refused("lay(v, 0, 4)", NULL, (x, v) -> x.lay(v, 0, 4), 19, 20, 21, 22, 23);
        edges.refused("lay(19, v, 4)", NULL, (x, v) -> x.lay(FREE, v, 4), NO_PLACE);
        edges.refused("lay(19, v, 19)", NULL, (x, v) -> x.lay(FREE, v, FREE), NO_PLACE);
        edges.says("INDEX.");
        for (int c : new int[] {4, Edges.NO_INTS, FREE}) {
            edges.refused("lay(8, v, " + c + ")", INDEX, (x, v) -> x.lay(SHEET, v, c), NO_PLACE);
            edges.refused("lay(18, v, " + c + ")", INDEX, (x, v) -> x.lay(Edges.NO_LINES, v, c), 0, -1, LEAST, MOST);
        }
    }

    private static void set() {
        edges.promise(20);
        edges.says("Place i of a BANK gets the VOICE in BOX c, ");
        for (int i = 0; i < 3; i++) {
            int at = i;
            int was = Edges.full().get(BELLS, i);
            edges.left("set(9, " + i + ", 12)", 0, was == 2 ? Edges.NOTHING : Edges.BOXES, x -> x.set(BELLS, at, CHIME));
            PatchAsks x = Edges.full();
            x.set(BELLS, i, CHIME);
            for (int k = 0; k < 3; k++) {
                edges.is("get(9, " + k + ") then", x.get(BELLS, k), k == i ? 2 : Edges.full().get(BELLS, k));
            }
            edges.is("what(12) then", x.what(CHIME), 22);
        }
        PatchAsks x = new PatchAsks();
        x.bank(0, 6, 8);
        x.voice(1, 0);
        for (int i = 0; i < 8; i++) edges.is("the same in place " + i, x.set(0, i, 1), 0);
        for (int i = 0; i < 8; i++) edges.is("place " + i, x.get(0, i), 0);
        edges.says("or NOTHING, if that holds NOTHING: 0.");
        edges.left("set(9, 0, 23)", 0, Edges.BOXES, y -> y.set(BELLS, 0, 23));
        edges.left("set(9, 1, 23) where NOTHING is", 0, Edges.NOTHING, y -> y.set(BELLS, 1, 23));
        x = Edges.full();
        x.set(BELLS, 0, 23);
        edges.is("get(9, 0) then", x.get(BELLS, 0), -1);
        edges.is("what(11) then", x.what(BELL), 21);
    }

    private static void setRefused() {
        edges.says("UNKNOWN: either;");
        edges.unknown("set(v, 0, 11)", (x, v) -> x.set(v, 0, BELL));
        edges.unknown("set(9, 0, v)", (x, v) -> x.set(BELLS, 0, v));
        edges.unknown("set(4, 9, v)", (x, v) -> x.set(4, 9, v));
        edges.unknown("set(v, 9, v)", (x, v) -> x.set(v, 9, v));
        edges.says("CAST: BOX b holds something that is no BANK;");
        for (int c : new int[] {BELL, Edges.DRUM, 4, FREE}) {
            edges.refused("set(v, 9, " + c + ")", CAST, (x, v) -> x.set(v, 9, c), NO_BANKS);
        }
        edges.says("CAST: BOX c something that is no VOICE;");
        for (int c : new int[] {0, 4, 7, SHEET, BELLS, Edges.NO_PLACES, Edges.NO_INTS, Edges.NO_LINES}) {
            edges.refused("set(9, v, " + c + ")", CAST, (x, v) -> x.set(BELLS, v, c), 0, 9);
            edges.refused("set(19, v, " + c + ")", CAST, (x, v) -> x.set(FREE, v, c), 0, 9);
        }
        edges.says("NULL: BOX b holds NOTHING;");
        edges.refused("set(v, 0, 11)", NULL, (x, v) -> x.set(v, 0, BELL), 19, 20, 21, 22, 23);
        edges.refused("set(19, v, 15)", NULL, (x, v) -> x.set(FREE, v, Edges.DRUM), NO_PLACE);
        edges.refused("set(19, v, 19)", NULL, (x, v) -> x.set(FREE, v, FREE), NO_PLACE);
        edges.says("INDEX;");
        for (int c : new int[] {BELL, Edges.DRUM, FREE}) {
            edges.refused("set(9, v, " + c + ")", INDEX, (x, v) -> x.set(BELLS, v, c), NO_PLACE);
            edges.refused("set(16, v, " + c + ")", INDEX, (x, v) -> x.set(Edges.NO_PLACES, v, c), 0, -1, LEAST, MOST);
        }
    }

    // row: the bank's kind; column: the voice's
    private static final int[][] TAKES = {
        {1, 1, 1, 0, 0, 0}, {0, 1, 1, 0, 0, 0}, {0, 0, 1, 0, 0, 0}, {0, 0, 0, 1, 1, 1}, {0, 0, 0, 0, 1, 0},
        {0, 0, 0, 0, 0, 1}, {1, 1, 1, 1, 1, 1},
    };

    private static void setStore() {
        edges.says("STORE: it is not of the BANK's KIND.");
        edges.refused("set(9, 0, v)", STORE, (x, v) -> x.set(BELLS, 0, v), Edges.TONE, Edges.NOISE, Edges.WIND, Edges.DRUM);
        edges.refused("set(9, 1, v)", STORE, (x, v) -> x.set(BELLS, 1, v), Edges.TONE, Edges.NOISE, Edges.WIND, Edges.DRUM);
        for (int of = 0; of <= 6; of++) {
            PatchAsks x = Edges.full();
            x.bank(FREE, of, 1);
            for (int kind = 0; kind <= 5; kind++) {
                boolean takes = TAKES[of][kind] == 1;
                x.set(FREE, 0, 23);
                edges.is("kind " + kind + " in a bank of " + of, x.set(FREE, 0, Edges.TONE + kind), takes ? 0 : STORE);
                edges.is("what is there then", x.get(FREE, 0), takes ? kind : -1);
            }
            edges.is("a bank of " + of + " takes NOTHING", x.set(FREE, 0, 23), 0);
        }
    }

    private static void get() {
        edges.promise(21);
        edges.says("The number of the VOICE at a place of a BANK;");
        edges.left("get(9, 0)", 1, Edges.NOTHING, x -> x.get(BELLS, 0));
        edges.left("get(9, 2)", 2, Edges.NOTHING, x -> x.get(BELLS, 2));
        PatchAsks full = new PatchAsks();
        for (int k = 0; k < 40; k++) full.voice(1, 0);
        full.bank(0, 0, 8);
        full.set(0, 7, 1);
        edges.is("the last number, at the last place", full.get(0, 7), 39);
        edges.says("NONE: NOTHING.");
        edges.left("get(9, 1)", -1, Edges.NOTHING, x -> x.get(BELLS, 1));
        edges.says("UNKNOWN;");
        edges.unknown("get(v, 0)", (x, v) -> x.get(v, 0));
        edges.unknown("get(v, 9)", (x, v) -> x.get(v, 9));
        edges.says("CAST;");
        edges.refused("get(v, 0)", CAST, (x, v) -> x.get(v, 0), NO_BANKS);
        edges.refused("get(v, 9)", CAST, (x, v) -> x.get(v, 9), NO_BANKS);
        edges.says("NULL;");
        edges.refused("get(v, 0)", NULL, (x, v) -> x.get(v, 0), 19, 20, 21, 22, 23);
        edges.refused("get(19, v)", NULL, (x, v) -> x.get(FREE, v), NO_PLACE);
        edges.says("INDEX.");
        edges.refused("get(9, v)", INDEX, (x, v) -> x.get(BELLS, v), NO_PLACE);
        edges.refused("get(16, v)", INDEX, (x, v) -> x.get(Edges.NO_PLACES, v), 0, -1, LEAST, MOST);
    }

    private static void take() {
        edges.promise(22);
        edges.says("BOX c holds what is at place i of the BANK in BOX b: as get().");
        int may = Edges.BOXES | Edges.HELD;
        edges.left("take(9, 2, 19)", 2, may, x -> x.take(BELLS, 2, FREE));
        edges.left("take(9, 1, 4)", -1, may, x -> x.take(BELLS, 1, 4));
        edges.left("take(9, 1, 19)", -1, Edges.NOTHING, x -> x.take(BELLS, 1, FREE));
        edges.left("take(9, 0, 11)", 1, Edges.NOTHING, x -> x.take(BELLS, 0, BELL));
        PatchAsks x = Edges.full();
        x.take(BELLS, 2, FREE);
        edges.is("what(19) then", x.what(FREE), 22);
        x.raise(FREE, 1, -8);
        edges.sees(x, "the very same voice", x.level(CHIME, 1), -8);
        edges.is("it stays in its place", x.get(BELLS, 2), 2);
        x.clear(CHIME);
        x.clear(FREE);
        edges.is("a voice that no box holds", x.take(BELLS, 2, 0), 2);
        edges.sees(x, "is as it was", x.level(0, 1), -8);
        edges.is("NOTHING is taken", x.take(BELLS, 1, 4), -1);
        edges.is("what(4) then", x.what(4), -1);
        edges.is("take into the BANK's own box", x.take(BELLS, 0, BELLS), 1);
        edges.is("what(9) then", x.what(BELLS), 21);
        x = Edges.full();
        edges.is("NOTHING into the BANK's own box", x.take(BELLS, 1, BELLS), -1);
        edges.is("what(9) then", x.what(BELLS), -1);
    }

    private static void takeRefused() {
        edges.says("UNKNOWN: either;");
        edges.unknown("take(v, 0, 19)", (x, v) -> x.take(v, 0, FREE));
        edges.unknown("take(9, 0, v)", (x, v) -> x.take(BELLS, 0, v));
        edges.unknown("take(4, 9, v)", (x, v) -> x.take(4, 9, v));
        edges.unknown("take(19, 9, v)", (x, v) -> x.take(FREE, 9, v));
        edges.unknown("take(v, 9, v)", (x, v) -> x.take(v, 9, v));
        edges.says("CAST;");
        edges.refused("take(v, 0, 19)", CAST, (x, v) -> x.take(v, 0, FREE), NO_BANKS);
        edges.refused("take(v, 9, v)", CAST, (x, v) -> x.take(v, 9, v), NO_BANKS);
        edges.says("NULL;");
        edges.refused("take(v, 0, 4)", NULL, (x, v) -> x.take(v, 0, 4), 19, 20, 21, 22, 23);
        edges.refused("take(19, v, 4)", NULL, (x, v) -> x.take(FREE, v, 4), NO_PLACE);
        edges.says("INDEX.");
        edges.refused("take(9, v, 4)", INDEX, (x, v) -> x.take(BELLS, v, 4), NO_PLACE);
        edges.refused("take(16, v, 4)", INDEX, (x, v) -> x.take(Edges.NO_PLACES, v, 4), 0, -1, LEAST, MOST);
    }
}
