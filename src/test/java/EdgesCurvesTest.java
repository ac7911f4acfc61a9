/** The edges of promises 11 to 14 and 16, sentence by sentence. */
public final class EdgesCurvesTest {
    private static final int LEAST = Edges.LEAST, MOST = Edges.MOST, FREE = Edges.FREE;
    private static final int NULL = Edges.NULL, INDEX = Edges.INDEX, CAST = Edges.CAST, OUTSIDE = Edges.OUTSIDE;
    private static final int[] NO_PLACE = {-1, 3, 4, LEAST, MOST};
    private static final long NO_FLOAT = 0x7fc00000L, NO_DOUBLE = 0x7ff8000000000000L;
    private static Edges edges;

    public static void main(String[] args) throws Exception {
        edges = new Edges("EdgesCurvesTest");
        read();
        readRefused();
        writeWhole();
        writeFloating();
        writeRefused();
        writeNoNumber();
        copy();
        copyInItself();
        copyRefused();
        copyIndex();
        grow();
        growApart();
        growRefused();
        seen();
        seenChanges();
        edges.end();
    }

    private static void read() {
        edges.promise(11);
        edges.says("SEEN becomes the WORD of number i of a CURVE of a LANE: 0.");
        for (int lane = 0; lane <= 7; lane++) {
            for (int i = 0; i < 3; i++) {
                int l = lane, at = i;
                edges.left("read(" + lane + ", " + lane + ", " + i + ")", 0, Edges.SEEN, x -> x.read(l, l, at));
                PatchAsks x = Edges.full();
                edges.sees(x, "read(" + lane + ", " + lane + ", " + i + ")", x.read(lane, lane, i), Edges.wordIn(lane, i));
            }
            PatchAsks x = new PatchAsks();
            x.curve(23, lane, 16);
            x.write(23, lane, 15, 1);
            edges.sees(x, "the last of 16", x.read(23, lane, 15), 1);
        }
    }

    private static void readRefused() {
        edges.says("UNKNOWN;");
        edges.unknown("read(v, 0, 0)", (x, v) -> x.read(v, 0, 0));
        edges.unknown("read(v, 8, 3)", (x, v) -> x.read(v, 8, 3));
        edges.says("OUTSIDE: LANE;");
        edges.refused("read(0, v, 0)", OUTSIDE, (x, v) -> x.read(0, v, 0), -1, 8, 9, LEAST, MOST);
        edges.refused("read(19, v, -1)", OUTSIDE, (x, v) -> x.read(FREE, v, -1), -1, 8, LEAST, MOST);
        edges.says("NULL;");
        edges.refused("read(19, v, 0)", NULL, (x, v) -> x.read(FREE, v, 0), 0, 1, 2, 3, 4, 5, 6, 7);
        edges.refused("read(19, 0, v)", NULL, (x, v) -> x.read(FREE, 0, v), NO_PLACE);
        edges.says("CAST: the BOX holds something else;");
        for (int b = 0; b <= Edges.NO_LINES; b++) {
            for (int lane = 0; lane <= 7; lane++) {
                int box = b, l = lane;
                boolean such = b == lane || b == Edges.NO_INTS && lane == 4;
                if (!such) edges.refused("read(" + b + ", " + lane + ", v)", CAST, (x, v) -> x.read(box, l, v), 0, 3);
            }
        }
        edges.says("INDEX.");
        for (int lane = 0; lane <= 7; lane++) {
            int l = lane;
            edges.refused("read(" + lane + ", " + lane + ", v)", INDEX, (x, v) -> x.read(l, l, v), NO_PLACE);
        }
        edges.refused("read(17, 4, v) of no numbers", INDEX, (x, v) -> x.read(Edges.NO_INTS, 4, v), 0, -1, LEAST, MOST);
    }

    private static void tells(int lane, long word, long want) {
        for (int i = 0; i < 3; i++) {
            int at = i;
            String call = "write(" + lane + ", " + lane + ", " + i + ", " + word + ")";
            edges.left(call, 0, Edges.BOXES, x -> x.write(lane, lane, at, word));
            PatchAsks x = Edges.full();
            x.write(lane, lane, i, word);
            for (int k = 0; k < 3; k++) {
                edges.sees(x, call + ", number " + k, x.read(lane, lane, k), k == i ? want : Edges.wordIn(lane, k));
            }
        }
    }

    private static void writeWhole() {
        edges.promise(12);
        edges.says("Number i of a CURVE of a LANE becomes what a WORD tells: 0.");
        long[] words = {0, 1, -1, 2, 127, 128, 255, 256, -128, -129, 32767, 32768, 65535, 65536, -32768, -32769,
            MOST, MOST + 1L, LEAST, LEAST - 1L, 0xffffffffL, 1L << 32, Long.MAX_VALUE, Long.MIN_VALUE};
        for (long word : words) {
            tells(0, word, word & 1);
            tells(1, word, (byte) word);
            tells(2, word, (char) word);
            tells(3, word, (short) word);
            tells(4, word, (int) word);
            tells(5, word, word);
        }
        tells(1, 0x80, -128);
        tells(2, 0xffff, 65535);
        tells(3, 0x8000, -32768);
        tells(4, 0x80000000L, LEAST);
    }

    private static void writeFloating() {
        long[] floats = {0, 0x80000000L, 1, 0x80000001L, 0x7fffffL, 0x800000L, 0x7f7fffffL, 0xff7fffffL, 0x7f800000L,
            0xff800000L, 0x3f800000L, NO_DOUBLE, NO_DOUBLE | 0x3f800000L, 0xffffffff00000000L, 1L << 32};
        for (long word : floats) tells(6, word, (int) word);
        long[] doubles = {0, Long.MIN_VALUE, 1, 0x8000000000000001L, 0xfffffffffffffL, 0x10000000000000L,
            0x7fefffffffffffffL, 0xffefffffffffffffL, 0x7ff0000000000000L, 0xfff0000000000000L, NO_FLOAT, 0xffffffffL};
        for (long word : doubles) tells(7, word, word);
    }

    private static void writeRefused() {
        edges.says("UNKNOWN;");
        edges.unknown("write(v, 0, 0, 0)", (x, v) -> x.write(v, 0, 0, 0));
        edges.unknown("write(v, 8, 3, 0)", (x, v) -> x.write(v, 8, 3, 0));
        edges.unknown("write(v, 6, 0, no float)", (x, v) -> x.write(v, 6, 0, NO_FLOAT));
        edges.says("NULL;");
        edges.refused("write(19, v, 3, 0)", NULL, (x, v) -> x.write(FREE, v, 3, 0), 0, 1, 2, 3, 4, 5, 6, 7);
        edges.refused("write(19, 0, v, 0)", NULL, (x, v) -> x.write(FREE, 0, v, 0), NO_PLACE);
        edges.says("CAST;");
        for (int b = 0; b <= Edges.NO_LINES; b++) {
            for (int lane = 0; lane <= 7; lane++) {
                int box = b, l = lane;
                boolean such = b == lane || b == Edges.NO_INTS && lane == 4;
                if (!such) edges.refused("write(" + b + ", " + lane + ", v, 0)", CAST, (x, v) -> x.write(box, l, v, 0), 0, 3);
            }
        }
        edges.says("INDEX.");
        for (int lane = 0; lane <= 7; lane++) {
            int l = lane;
            edges.refused("write(" + lane + ", " + lane + ", v, 0)", INDEX, (x, v) -> x.write(l, l, v, 0), NO_PLACE);
        }
        edges.refused("write(17, 4, v, 0)", INDEX, (x, v) -> x.write(Edges.NO_INTS, 4, v, 0), 0, -1, LEAST, MOST);
    }

    private static void writeNoNumber() {
        edges.says("OUTSIDE: LANE, the WORD tells no number (float, double);");
        edges.refused("write(0, v, 0, 0)", OUTSIDE, (x, v) -> x.write(0, v, 0, 0), -1, 8, 9, LEAST, MOST);
        edges.refused("write(19, v, 3, 0)", OUTSIDE, (x, v) -> x.write(FREE, v, 3, 0), -1, 8, LEAST, MOST);
        for (long word : new long[] {0x7f800001L, NO_FLOAT, 0x7fffffffL, 0xff800001L, 0xffc00000L, -1, (1L << 32) | NO_FLOAT}) {
            edges.refused("write(6, 6, v, " + word + ")", OUTSIDE, (x, v) -> x.write(6, 6, v, word), 0, 3);
            edges.refused("write(v, 6, 0, " + word + ")", OUTSIDE, (x, v) -> x.write(v, 6, 0, word), 7, Edges.SHEET, FREE);
        }
        for (long word : new long[] {0x7ff0000000000001L, NO_DOUBLE, Long.MAX_VALUE, 0xfff0000000000001L, -1}) {
            edges.refused("write(7, 7, v, " + word + ")", OUTSIDE, (x, v) -> x.write(7, 7, v, word), 0, 3);
            edges.refused("write(v, 7, 0, " + word + ")", OUTSIDE, (x, v) -> x.write(v, 7, 0, word), 6, Edges.SHEET, FREE);
        }
        for (int lane = 0; lane <= 5; lane++) {
            int l = lane;
            edges.left("whole lanes take every word", 0, Edges.BOXES, x -> x.write(l, l, 0, NO_FLOAT));
            edges.left("whole lanes take every word", 0, Edges.BOXES, x -> x.write(l, l, 0, NO_DOUBLE + 1));
        }
    }

    /** Box 0: 16 numbers of the lane, 1 to 16 (truths: of odd ones 1); box 1: 16, all 0; box 2: box 0's. */
    private static PatchAsks twoRows(int lane) {
        PatchAsks x = new PatchAsks();
        x.curve(0, lane, 16);
        x.curve(1, lane, 16);
        for (int i = 0; i < 16; i++) x.write(0, lane, i, i + 1);
        x.share(0, 2);
        return x;
    }

    private static void rowIs(PatchAsks x, String call, int b, int lane, int... want) {
        for (int i = 0; i < want.length; i++) {
            x.read(b, lane, i);
            edges.is(call + ", box " + b + ", lane " + lane + ", number " + i, x.seen(), lane == 0 ? want[i] & 1 : want[i]);
        }
    }

    private static void copy() {
        edges.promise(13);
        edges.says("n numbers of the CURVE in BOX b from i on come to those of the one in BOX c from j on");
        edges.left("copy(4, 0, 4, 1, 2)", 0, Edges.BOXES, x -> x.copy(4, 0, 4, 1, 2));
        edges.left("copy(4, 3, 17, 0, 0)", 0, Edges.NOTHING, x -> x.copy(4, 3, Edges.NO_INTS, 0, 0));
        edges.left("copy(17, 0, 17, 0, 0)", 0, Edges.NOTHING, x -> x.copy(Edges.NO_INTS, 0, Edges.NO_INTS, 0, 0));
        for (int lane = 0; lane <= 7; lane++) {
            PatchAsks x = twoRows(lane);
            edges.is("copy of one, first to last", x.copy(0, 0, 1, 15, 1), 0);
            edges.is("copy of one, last to first", x.copy(0, 15, 1, 0, 1), 0);
            edges.is("copy of three", x.copy(0, 2, 1, 5, 3), 0);
            edges.is("copy of none", x.copy(0, 0, 1, 1, 0), 0);
            edges.is("copy of none at the ends", x.copy(0, 16, 1, 16, 0), 0);
            rowIs(x, "copied", 1, lane, 16, 0, 0, 0, 0, 3, 4, 5, 0, 0, 0, 0, 0, 0, 0, 1);
            edges.is("copy of all", x.copy(0, 0, 1, 0, 16), 0);
            rowIs(x, "copied all", 1, lane, 1, 2, 3, 4, 5, 6, 7, 8, 9, 10, 11, 12, 13, 14, 15, 16);
            rowIs(x, "where they are from", 0, lane, 1, 2, 3, 4, 5, 6, 7, 8, 9, 10, 11, 12, 13, 14, 15, 16);
        }
    }

    private static void copyInItself() {
        edges.says(", as if all were taken ahead: 0.");
        for (int lane = 0; lane <= 7; lane++) {
            for (int c = 0; c <= 2; c += 2) {
                PatchAsks x = twoRows(lane);
                edges.is("copy up by 1", x.copy(0, 0, c, 1, 15), 0);
                rowIs(x, "copy up by 1", 0, lane, 1, 1, 2, 3, 4, 5, 6, 7, 8, 9, 10, 11, 12, 13, 14, 15);
                x = twoRows(lane);
                edges.is("copy down by 1", x.copy(0, 1, c, 0, 15), 0);
                rowIs(x, "copy down by 1", 0, lane, 2, 3, 4, 5, 6, 7, 8, 9, 10, 11, 12, 13, 14, 15, 16, 16);
                x = twoRows(lane);
                edges.is("copy to its own place", x.copy(0, 0, c, 0, 16), 0);
                rowIs(x, "copy to its own place", 0, lane, 1, 2, 3, 4, 5, 6, 7, 8, 9, 10, 11, 12, 13, 14, 15, 16);
            }
        }
    }

    private static void copyRefused() {
        edges.says("UNKNOWN: either;");
        edges.unknown("copy(v, 0, 4, 0, 1)", (x, v) -> x.copy(v, 0, 4, 0, 1));
        edges.unknown("copy(4, 0, v, 0, 1)", (x, v) -> x.copy(4, 0, v, 0, 1));
        edges.unknown("copy(19, 9, v, 9, -1)", (x, v) -> x.copy(FREE, 9, v, 9, -1));
        edges.unknown("copy(v, 9, v, 9, -1)", (x, v) -> x.copy(v, 9, v, 9, -1));
        edges.says("NULL: BOX b holds NOTHING;");
        edges.refused("copy(19, 0, v, 0, 1)", NULL, (x, v) -> x.copy(FREE, 0, v, 0, 1), 4, 7, Edges.SHEET, Edges.TONE, FREE);
        edges.refused("copy(19, v, 4, v, v)", NULL, (x, v) -> x.copy(FREE, v, 4, v, v), NO_PLACE);
        edges.says("CAST: it holds no CURVE;");
        for (int b : new int[] {Edges.SHEET, Edges.BELLS, Edges.TONE, Edges.DRUM, Edges.NO_PLACES, Edges.NO_LINES}) {
            edges.refused("copy(" + b + ", 9, v, 9, -1)", CAST, (x, v) -> x.copy(b, 9, v, 9, -1), 4, b, FREE);
        }
        edges.says("CAST: BOX c holds something that is no CURVE of this LANE;");
        for (int b = 0; b <= 7; b++) {
            for (int c = 0; c <= Edges.NO_LINES; c++) {
                int from = b, to = c;
                boolean such = c == b || c == Edges.NO_INTS && b == 4;
                if (!such) edges.refused("copy(" + b + ", v, " + c + ", v, 1)", CAST, (x, v) -> x.copy(from, v, to, v, 1), 0, 9);
            }
        }
        edges.says("NULL: it holds NOTHING;");
        edges.refused("copy(v, 0, 19, 0, 1)", NULL, (x, v) -> x.copy(v, 0, FREE, 0, 1), 0, 1, 2, 3, 4, 5, 6, 7);
        edges.refused("copy(4, v, 19, v, v)", NULL, (x, v) -> x.copy(4, v, FREE, v, v), NO_PLACE);
    }

    private static void copyIndex() {
        edges.says("INDEX (n below 0, too).");
        int[][] wrong = {{0, 0, 4}, {1, 0, 3}, {0, 1, 3}, {3, 0, 1}, {0, 3, 1}, {4, 0, 0}, {0, 4, 0}, {-1, 0, 0},
            {0, -1, 0}, {-1, 0, 1}, {0, -1, 1}, {0, 0, -1}, {1, 1, -1}, {3, 3, -1}, {0, 0, LEAST}, {3, 3, LEAST},
            {LEAST, 0, 1}, {0, LEAST, 1}, {MOST, 0, 1}, {0, MOST, 1}, {MOST, 0, 0}, {0, MOST, 0}, {0, 0, MOST},
            {1, 1, MOST}, {MOST, MOST, MOST}, {LEAST, LEAST, LEAST}, {MOST, MOST, LEAST}, {-1, -1, MOST}};
        for (int lane = 0; lane <= 7; lane++) {
            for (int[] w : wrong) {
                int l = lane;
                edges.refused("copy(" + l + ", " + w[0] + ", " + l + ", " + w[1] + ", " + w[2] + ")", INDEX,
                        x -> x.copy(l, w[0], l, w[1], w[2]));
            }
        }
        edges.refused("copy(4, 0, 17, 0, v)", INDEX, (x, v) -> x.copy(4, 0, Edges.NO_INTS, 0, v), 1, 3, -1);
        edges.refused("copy(17, 0, 4, 0, v)", INDEX, (x, v) -> x.copy(Edges.NO_INTS, 0, 4, 0, v), 1, 3, -1);
    }

    private static void grow() {
        edges.promise(14);
        edges.says("A BOX holds a new CURVE with n numbers, of the LANE of the one that it holds, "
                + "the first ones as they are there, others 0: n.");
        for (int lane = 0; lane <= 7; lane++) {
            int l = lane;
            edges.left("grow(" + lane + ", 16)", 16, Edges.BOXES, x -> x.grow(l, 16));
            for (int n : new int[] {0, 1, 2, 3, 4, 16}) {
                PatchAsks x = Edges.full();
                edges.is("grow(" + lane + ", " + n + ")", x.grow(lane, n), n);
                edges.is("what then", x.what(lane), lane);
                edges.is("width then", x.width(lane, lane), n);
                for (int i = 0; i < n; i++) {
                    edges.sees(x, "number " + i + " of " + n, x.read(lane, lane, i), i < 3 ? Edges.wordIn(lane, i) : 0);
                }
            }
            PatchAsks x = Edges.full();
            x.grow(lane, 1);
            x.grow(lane, 3);
            edges.sees(x, "what was cut off is gone", x.read(lane, lane, 2), 0);
        }
        PatchAsks x = Edges.full();
        edges.is("grow of no numbers", x.grow(Edges.NO_INTS, 16), 16);
        edges.sees(x, "grown from none", x.read(Edges.NO_INTS, 4, 15), 0);
        edges.is("grow of 16 to 16", x.grow(Edges.NO_INTS, 16), 16);
    }

    private static void growApart() {
        for (int n : new int[] {2, 3, 16}) {
            PatchAsks x = Edges.full();
            x.share(4, FREE);
            x.lay(Edges.SHEET, 0, 4);
            x.grow(4, n);
            x.write(4, 4, 0, -6);
            edges.sees(x, "another box keeps the old one", x.read(FREE, 4, 0), 90);
            edges.is("with its width", x.width(FREE, 4), 3);
            edges.sees(x, "a line keeps the old row", x.line(Edges.SHEET, 0, 0), 90);
            x.write(FREE, 4, 1, -7);
            edges.sees(x, "the new one is apart", x.read(4, 4, 1), 91);
        }
    }

    private static void growRefused() {
        edges.says("UNKNOWN;");
        edges.unknown("grow(v, 3)", (x, v) -> x.grow(v, 3));
        edges.unknown("grow(v, 17)", (x, v) -> x.grow(v, 17));
        edges.says("OUTSIDE: n is above 16;");
        for (int b : new int[] {4, Edges.SHEET, Edges.TONE, FREE}) {
            edges.refused("grow(" + b + ", v)", OUTSIDE, (x, v) -> x.grow(b, v), 17, 18, MOST);
        }
        edges.says("NULL;");
        edges.refused("grow(19, v)", NULL, (x, v) -> x.grow(FREE, v), 0, 16, -1, LEAST);
        edges.says("CAST: no CURVE;");
        for (int b : new int[] {Edges.SHEET, Edges.BELLS, Edges.TONE, Edges.DRUM, Edges.NO_PLACES, Edges.NO_LINES}) {
            edges.refused("grow(" + b + ", v)", CAST, (x, v) -> x.grow(b, v), 0, 16, -1, LEAST);
        }
        edges.says("SIZE.");
        for (int lane = 0; lane <= 7; lane++) {
            int l = lane;
            edges.refused("grow(" + lane + ", v)", Edges.SIZE, (x, v) -> x.grow(l, v), -1, -2, LEAST);
        }
    }

    private static void seen() {
        edges.promise(16);
        edges.says("SEEN; 0 at first.");
        PatchAsks x = new PatchAsks();
        edges.is("seen() at first", x.seen(), 0);
        x.read(0, 0, 0);
        x.voice(0, 0);
        x.curve(1, 5, 2);
        x.write(1, 5, 1, Long.MIN_VALUE);
        edges.is("still", x.seen(), 0);
        edges.sees(x, "the least long", x.read(1, 5, 1), Long.MIN_VALUE);
        x.write(1, 5, 1, Long.MAX_VALUE);
        edges.is("SEEN is the word, not its place", x.seen(), Long.MIN_VALUE);
        edges.is("another object's", new PatchAsks().seen(), 0);
        edges.left("seen()", Edges.full().seen(), Edges.NOTHING, PatchAsks::seen);
    }

    private static void seenChanges() {
        PatchAsks x = Edges.full();
        edges.sees(x, "read", x.read(4, 4, 0), 90);
        edges.sees(x, "shape", x.shape(4, 0, 5, 95), 95);
        edges.sees(x, "line", x.line(Edges.SHEET, 0, 0), 11);
        edges.sees(x, "level", x.level(Edges.TONE, 0), 100);
        edges.sees(x, "ask", x.ask(Edges.DRUM, 5), 5);
        edges.sees(x, "turn", x.turn(Edges.TONE, 7), 107);
    }
}
