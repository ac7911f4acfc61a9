/** Promises 11 to 16: numbers of curves. */
public final class CurvesTest {
    private static final Due DUE = new Due("CurvesTest");
    private static final int UNKNOWN = -101, OUTSIDE = -102;
    private static final int NULL = -11, INDEX = -12, CAST = -13, SIZE = -15, ZERO = -16;
    private static final int[] NO_BOXES = {-1, 24, Integer.MIN_VALUE, Integer.MAX_VALUE};
    private static final int[] NO_PLACES = {-1, 3, Integer.MIN_VALUE, Integer.MAX_VALUE};

    public static void main(String[] args) {
        reads();
        writtenWords();
        wordsOfNoNumber();
        writeRefused();
        copies();
        copyRefused();
        grows();
        shapesOfWhole();
        shapesOfFloats();
        shapesOfDoubles();
        shapeLeft();
        shapeCut();
        shapeRefused();
        seenStays();
        DUE.end();
    }

    private static void reads() {
        PatchAsks x = new PatchAsks();
        for (int lane = 0; lane <= 7; lane++) {
            DUE.is("read of nothing", x.read(8, lane, -1), NULL);
            x.curve(0, lane, 3);
            x.write(0, lane, 2, 1);
            DUE.is("read", x.read(0, lane, 2), 0);
            DUE.is("read: seen", x.seen(), 1);
            for (int i : NO_PLACES) DUE.is("read at " + i, x.read(0, lane, i), INDEX);
            DUE.is("read: seen stays", x.seen(), 1);
            DUE.is("read of another lane", x.read(0, (lane + 1) % 8, 9), CAST);
        }
        x.sheet(1, 2, 2);
        x.bank(2, 0, 2);
        x.voice(3, 0);
        for (int b = 1; b <= 3; b++) DUE.is("read of no curve", x.read(b, 4, 0), CAST);
        DUE.is("read lane 8", x.read(9, 8, 0), OUTSIDE);
        DUE.is("read lane -1", x.read(9, -1, 0), OUTSIDE);
        for (int b : NO_BOXES) DUE.is("read, no box", x.read(b, 8, 0), UNKNOWN);
    }

    private static void written(int lane, long word, long want) {
        PatchAsks x = new PatchAsks();
        x.curve(0, lane, 2);
        DUE.is("write, lane " + lane, x.write(0, lane, 1, word), 0);
        DUE.is("write changes no SEEN", x.seen(), 0);
        x.read(0, lane, 1);
        DUE.is("word " + word + " in lane " + lane, x.seen(), want);
        x.read(0, lane, 0);
        DUE.is("the other number stays", x.seen(), 0);
    }

    private static void writtenWords() {
        written(0, 1, 1);
        written(0, 2, 0);
        written(0, -1, 1);
        written(0, Long.MIN_VALUE, 0);
        written(1, 127, 127);
        written(1, 128, -128);
        written(1, 0x1ffL, -1);
        written(2, 65535, 65535);
        written(2, 65536, 0);
        written(2, -1, 65535);
        written(3, 32768, -32768);
        written(3, 65537, 1);
        written(4, 1L << 31, Integer.MIN_VALUE);
        written(4, (1L << 32) + 5, 5);
        written(5, Long.MIN_VALUE, Long.MIN_VALUE);
        written(5, Long.MAX_VALUE, Long.MAX_VALUE);
        written(6, 0x3f800000L, 0x3f800000L);
        written(6, 0xbf800000L, (int) 0xbf800000L);
        written(6, 0x7ff800003f800000L, 0x3f800000L);
        written(6, 0x7f800000L, 0x7f800000L);
        written(6, 0xff800000L, (int) 0xff800000L);
        written(6, 0x80000000L, Integer.MIN_VALUE);
        written(7, 0x3ff0000000000000L, 0x3ff0000000000000L);
        written(7, 0xfff0000000000000L, 0xfff0000000000000L);
        written(7, Long.MIN_VALUE, Long.MIN_VALUE);
        written(7, 0x7fc00000L, 0x7fc00000L);
    }

    private static void wordsOfNoNumber() {
        PatchAsks x = new PatchAsks();
        x.curve(0, 6, 1);
        x.curve(1, 7, 1);
        for (long word : new long[] {0x7f800001L, 0x7fc00000L, 0xff800001L, 0xffffffffL, -1}) {
            DUE.is("no float", x.write(0, 6, 0, word), OUTSIDE);
        }
        for (long word : new long[] {0x7ff0000000000001L, 0x7ff8000000000000L, 0xfff0000000000001L, -1}) {
            DUE.is("no double", x.write(1, 7, 0, word), OUTSIDE);
        }
        DUE.is("no float, ahead of NULL", x.write(2, 6, 0, 0x7fc00000L), OUTSIDE);
        DUE.is("no float, ahead of CAST", x.write(1, 6, 0, 0x7fc00000L), OUTSIDE);
        DUE.is("no float, ahead of INDEX", x.write(0, 6, 7, 0x7fc00000L), OUTSIDE);
        DUE.is("no double is a float", x.write(0, 6, 0, 0x7ff8000000000000L), 0);
        DUE.is("no finding was met", x.finding(), 0);
    }

    private static void writeRefused() {
        PatchAsks x = new PatchAsks();
        for (int lane = 0; lane <= 7; lane++) {
            DUE.is("write to nothing", x.write(8, lane, -1, 1), NULL);
            x.curve(0, lane, 3);
            for (int i : NO_PLACES) DUE.is("write at " + i, x.write(0, lane, i, 1), INDEX);
            DUE.is("write to another lane", x.write(0, (lane + 1) % 8, 9, 1), CAST);
        }
        x.sheet(1, 2, 2);
        DUE.is("write to a sheet", x.write(1, 4, 0, 1), CAST);
        DUE.is("write lane 8", x.write(9, 8, 0, 1), OUTSIDE);
        DUE.is("write lane -1", x.write(9, -1, 0, 1), OUTSIDE);
        for (int b : NO_BOXES) DUE.is("write, no box", x.write(b, 8, 0, 1), UNKNOWN);
    }

    /** The ints of a curve of 5 as one number in tens. */
    private static long five(PatchAsks x, int b, int lane) {
        long all = 0;
        for (int i = 0; i < 5; i++) {
            x.read(b, lane, i);
            all = 10 * all + x.seen();
        }
        return all;
    }

    private static PatchAsks withFive(int lane) {
        PatchAsks x = new PatchAsks();
        x.curve(0, lane, 5);
        x.curve(1, lane, 5);
        for (int i = 0; i < 5; i++) x.write(0, lane, i, lane == 0 ? i & 1 : i + 1);
        return x;
    }

    private static void copies() {
        for (int lane = 1; lane <= 7; lane++) {
            PatchAsks x = withFive(lane);
            DUE.is("copy", x.copy(0, 1, 1, 0, 3), 0);
            DUE.is("copied", five(x, 1, lane), 23400);
            DUE.is("copied from", five(x, 0, lane), 12345);
            DUE.is("copy up, in itself", x.copy(0, 0, 0, 1, 4), 0);
            DUE.is("as if taken ahead", five(x, 0, lane), 11234);
            DUE.is("copy down, in itself", x.copy(0, 2, 0, 0, 3), 0);
            DUE.is("as if taken ahead, down", five(x, 0, lane), 23434);
            DUE.is("copy none, at the end", x.copy(0, 5, 1, 5, 0), 0);
            DUE.is("copy all", x.copy(0, 0, 1, 0, 5), 0);
            DUE.is("copied all", five(x, 1, lane), 23434);
        }
        PatchAsks x = withFive(0);
        x.copy(0, 0, 0, 1, 4);
        DUE.is("copy of truths", five(x, 0, 0), 101);
    }

    private static void copyRefused() {
        PatchAsks x = withFive(4);
        int most = Integer.MAX_VALUE;
        int[][] wrong = {{0, 0, 6}, {1, 0, 5}, {0, 1, 5}, {-1, 0, 1}, {0, -1, 1}, {0, 0, -1}, {6, 0, 0}, {0, 6, 0},
            {most, 0, 1}, {0, most, 1}, {1, 1, most}, {most, most, most}, {0, 0, Integer.MIN_VALUE}};
        for (int[] w : wrong) DUE.is("copy, no such places", x.copy(0, w[0], 1, w[1], w[2]), INDEX);
        DUE.is("copy changed nothing", five(x, 1, 4), 0);
        x.sheet(2, 2, 2);
        x.curve(3, 5, 5);
        DUE.is("copy from nothing, to a sheet", x.copy(9, 0, 2, 0, 1), NULL);
        DUE.is("copy from a sheet, to nothing", x.copy(2, 0, 9, 0, 1), CAST);
        DUE.is("copy to a sheet", x.copy(0, 9, 2, 0, 1), CAST);
        DUE.is("copy to another lane", x.copy(0, 9, 3, 0, 1), CAST);
        DUE.is("copy to nothing", x.copy(0, 9, 9, 0, 1), NULL);
        for (int b : NO_BOXES) {
            DUE.is("copy, no box b", x.copy(b, 0, 0, 0, 1), UNKNOWN);
            DUE.is("copy, no box c", x.copy(9, 0, b, 0, 1), UNKNOWN);
        }
    }

    private static void grows() {
        for (int lane = 1; lane <= 7; lane++) {
            PatchAsks x = withFive(lane);
            x.share(0, 2);
            DUE.is("grow", x.grow(0, 16), 16);
            DUE.is("grown", x.width(0, lane), 16);
            DUE.is("the first ones stay", five(x, 0, lane), 12345);
            x.read(0, lane, 15);
            DUE.is("others are 0", x.seen(), 0);
            x.write(0, lane, 0, 9);
            DUE.is("the old one is another", five(x, 2, lane), 12345);
            DUE.is("the old one's width", x.width(2, lane), 5);
            DUE.is("grow to fewer", x.grow(2, 2), 2);
            DUE.is("fewer", x.width(2, lane), 2);
            x.read(2, lane, 1);
            DUE.is("fewer, as they are", x.seen(), 2);
            DUE.is("grow to none", x.grow(2, 0), 0);
            DUE.is("grow below none", x.grow(2, -1), SIZE);
            DUE.is("grow to 17", x.grow(2, 17), OUTSIDE);
            DUE.is("kept", x.width(2, lane), 0);
        }
        PatchAsks x = new PatchAsks();
        DUE.is("grow nothing", x.grow(0, -1), NULL);
        DUE.is("OUTSIDE ahead of NULL", x.grow(0, 17), OUTSIDE);
        x.sheet(0, 1, 1);
        DUE.is("grow a sheet", x.grow(0, -1), CAST);
        for (int b : NO_BOXES) DUE.is("grow, no box", x.grow(b, 17), UNKNOWN);
    }

    private static void shaped(int lane, long x, int way, long word, long want) {
        PatchAsks rack = new PatchAsks();
        rack.curve(0, lane, 1);
        rack.write(0, lane, 0, x);
        String call = "lane " + lane + ", x " + x + ", way " + way + ", y " + word;
        DUE.is(call, rack.shape(0, 0, way, word), 0);
        DUE.is(call + ": seen", rack.seen(), want);
        rack.read(0, lane, 0);
        DUE.is(call + ": x stays", rack.seen(), x);
    }

    private static void shapesOfWhole() {
        for (int lane = 4; lane <= 5; lane++) {
            shaped(lane, -7, 0, 0, 7);
            shaped(lane, -7, 5, 3, 3);
            shaped(lane, -7, 6, 3, -7);
            shaped(lane, -7, 8, 3, -1);
            shaped(lane, 7, 8, -3, 1);
            shaped(lane, -7, 9, 0, -7);
            shaped(lane, -7, 10, 0, -7);
            shaped(lane, -7, 11, 2, -3);
            shaped(lane, 7, 11, -2, -3);
            shaped(lane, 7, 8, 1, 0);
            shaped(lane, 7, 11, 1, 7);
        }
        int least = Integer.MIN_VALUE;
        shaped(4, least, 0, 0, least);
        shaped(4, least, 11, -1, least);
        shaped(4, least, 8, -1, 0);
        shaped(4, 5, 5, (1L << 32) + 3, 5);
        shaped(4, 5, 11, (1L << 32) + 3, 1);
        shaped(5, least, 0, 0, 1L << 31);
        shaped(5, Long.MIN_VALUE, 0, 0, Long.MIN_VALUE);
        shaped(5, Long.MIN_VALUE, 11, -1, Long.MIN_VALUE);
        shaped(5, Long.MIN_VALUE, 8, -1, 0);
        shaped(5, (1L << 31) + (1L << 40), 10, 0, least);
        shaped(5, 5, 5, (1L << 32) + 3, (1L << 32) + 3);
    }

    private static long f(float x) {
        return Float.floatToRawIntBits(x);
    }

    private static long d(double x) {
        return Double.doubleToRawLongBits(x);
    }

    private static void shapesOfFloats() {
        // x, then what comes by ways 0 to 4
        float[][] rows = {{2.5f, 2.5f, 2, 3, 2, 1}, {-2.5f, 2.5f, -3, -2, -2, -1}, {3.5f, 3.5f, 3, 4, 4, 1},
            {0.25f, 0.25f, 0, 1, 0, 1}, {-0.25f, 0.25f, -1, -0.0f, -0.0f, -1}, {0.5f, 0.5f, 0, 1, 0, 1},
            {-0.5f, 0.5f, -1, -0.0f, -0.0f, -1}, {-0.75f, 0.75f, -1, -0.0f, -1, -1}, {1.5f, 1.5f, 1, 2, 2, 1},
            {0, 0, 0, 0, 0, 0}, {-0.0f, 0, -0.0f, -0.0f, -0.0f, -0.0f}, {1e-45f, 1e-45f, 0, 1, 0, 1},
            {8388607.5f, 8388607.5f, 8388607, 8388608, 8388608, 1}, {-1e30f, 1e30f, -1e30f, -1e30f, -1e30f, -1}};
        for (float[] row : rows) {
            for (int way = 0; way <= 4; way++) shaped(6, f(row[0]), way, 0x7fc00000L, f(row[way + 1]));
        }
        float endless = Float.POSITIVE_INFINITY;
        for (int way = 1; way <= 3; way++) shaped(6, f(-endless), way, 0, f(-endless));
        shaped(6, f(-endless), 4, 0, f(-1));
        shaped(6, f(-endless), 0, 0, f(endless));
        shaped(6, f(-0.0f), 5, f(0.0f), f(0.0f));
        shaped(6, f(0.0f), 6, f(-0.0f), f(-0.0f));
        shaped(6, f(-2), 5, f(-3), f(-2));
        shaped(6, f(-2), 6, f(-3), f(-3));
        shaped(6, f(1), 6, f(-endless), f(-endless));
        shaped(6, f(2), 7, f(-0.0f), f(-2));
        shaped(6, f(-2), 7, f(endless), f(2));
        shaped(6, f(1), 5, 0x7ff8000000000000L | f(3), f(3));
    }

    private static void shapesOfDoubles() {
        double[][] rows = {{2.5, 2.5, 2, 3, 2, 1}, {-2.5, 2.5, -3, -2, -2, -1}, {3.5, 3.5, 3, 4, 4, 1},
            {0.49999999999999994, 0.49999999999999994, 0, 1, 0, 1}, {-0.5, 0.5, -1, -0.0, -0.0, -1},
            {0, 0, 0, 0, 0, 0}, {-0.0, 0, -0.0, -0.0, -0.0, -0.0}, {-4.9e-324, 4.9e-324, -1, -0.0, -0.0, -1},
            {4503599627370495.5, 4503599627370495.5, 4503599627370495.0, 4503599627370496.0, 4503599627370496.0, 1},
            {1e300, 1e300, 1e300, 1e300, 1e300, 1}};
        for (double[] row : rows) {
            for (int way = 0; way <= 4; way++) shaped(7, d(row[0]), way, d(Double.NaN), d(row[way + 1]));
        }
        shaped(7, d(-0.0), 5, d(0.0), d(0.0));
        shaped(7, d(0.0), 5, d(-0.0), d(0.0));
        shaped(7, d(-0.0), 6, d(0.0), d(-0.0));
        shaped(7, d(1e300), 5, d(Double.POSITIVE_INFINITY), d(Double.POSITIVE_INFINITY));
        shaped(7, d(2), 7, d(-5), d(-2));
    }

    private static void shapeLeft() {
        shaped(6, f(7.5f), 8, f(2), f(1.5f));
        shaped(6, f(-7.5f), 8, f(2), f(-1.5f));
        shaped(6, f(-6), 8, f(2), f(-0.0f));
        shaped(6, f(6), 8, f(-2), f(0.0f));
        shaped(6, f(3), 8, f(Float.NEGATIVE_INFINITY), f(3));
        shaped(6, f(-0.0f), 8, f(5), f(-0.0f));
        shaped(6, f(1e30f), 8, f(7), f(1e30f % 7));
        shaped(6, f(1), 8, f(1e-45f), f(0));
        shaped(6, f(7e-45f), 8, f(3e-45f), f(1e-45f));
        shaped(6, f(1.75f), 8, f(1.25f), f(0.5f));
        shaped(6, f(0), 8, f(5), f(0));
        shaped(7, d(5.25), 8, d(-1.5), d(0.75));
        shaped(7, d(-5.25), 8, d(1.5), d(-0.75));
        shaped(7, d(1.7976931348623157e308), 8, d(1.5e-323), d(1.7976931348623157e308 % 1.5e-323));
        shaped(7, d(1e300), 8, d(3), d(1e300 % 3));
    }

    private static void shapeCut() {
        for (int way = 9; way <= 10; way++) {
            shaped(6, f(-3.99f), way, 0, -3);
            shaped(7, d(3.99), way, 0, 3);
            shaped(7, d(-0.5), way, 0, 0);
            shaped(6, f(1.5f), way, 0, 1);
            shaped(6, f(1e-45f), way, 0, 0);
            shaped(7, d(-0.0), way, 0, 0);
        }
        shaped(6, f(1e30f), 9, 0, Long.MAX_VALUE);
        shaped(6, f(-1e30f), 10, 0, Integer.MIN_VALUE);
        shaped(6, f(Float.POSITIVE_INFINITY), 10, 0, Integer.MAX_VALUE);
        shaped(6, f(2147483648f), 9, 0, 1L << 31);
        shaped(7, d(2147483648.5), 10, 0, Integer.MAX_VALUE);
        shaped(7, d(2147483646.5), 10, 0, 2147483646);
        shaped(7, d(-2147483648.5), 10, 0, Integer.MIN_VALUE);
        shaped(7, d(9223372036854775808.0), 9, 0, Long.MAX_VALUE);
        shaped(7, d(-9223372036854775808.0), 9, 0, Long.MIN_VALUE);
        shaped(7, d(9223372036854774784.0), 9, 0, 9223372036854774784L);
        shaped(7, d(Double.NEGATIVE_INFINITY), 9, 0, Long.MIN_VALUE);
    }

    private static void shapeRefused() {
        PatchAsks x = new PatchAsks();
        for (int lane = 0; lane <= 7; lane++) x.curve(lane, lane, 3);
        x.sheet(8, 1, 1);
        x.voice(9, 0);
        for (int way = 0; way <= 11; way++) {
            for (int b = 0; b <= 9; b++) {
                boolean floating = way >= 1 && way <= 4 || way == 7;
                boolean has = b == 4 || b == 5 ? !floating : (b == 6 || b == 7) && way != 11;
                DUE.is("box " + b + ", way " + way + " at 3", x.shape(b, 3, way, 1), has ? INDEX : CAST);
            }
            DUE.is("way " + way + " of nothing", x.shape(10, 9, way, 0), NULL);
        }
        for (int i : NO_PLACES) DUE.is("INDEX ahead of ZERO", x.shape(4, i, 8, 0), INDEX);
        for (int way : new int[] {-1, 12, Integer.MIN_VALUE, Integer.MAX_VALUE}) {
            DUE.is("way " + way, x.shape(10, 0, way, 0), OUTSIDE);
            for (int b : NO_BOXES) DUE.is("shape, no box", x.shape(b, 0, way, 0), UNKNOWN);
        }
        for (int way = 0; way <= 10; way++) {
            boolean looks = way >= 5 && way <= 8;
            DUE.is("no float y, way " + way, x.shape(6, 9, way, 0x7fc00000L), looks ? OUTSIDE : INDEX);
            DUE.is("no double y, way " + way, x.shape(7, 9, way, -1), looks ? OUTSIDE : INDEX);
        }
        DUE.is("way that it has not", x.shape(6, 0, 11, 0x7fc00000L), CAST);
        shapeZero(x);
    }

    private static void shapeZero(PatchAsks x) {
        x.shape(7, 0, 7, d(-1));
        long seen = x.seen();
        for (int lane = 4; lane <= 5; lane++) {
            DUE.is("left by 0", x.shape(lane, 0, 8, 0), ZERO);
            DUE.is("by 0", x.shape(lane, 0, 11, 0), ZERO);
        }
        DUE.is("int y is 0 in its lane", x.shape(4, 0, 11, 1L << 32), ZERO);
        DUE.is("long y is not", x.shape(5, 0, 11, 1L << 32), 0);
        DUE.is("left of floats by 0", x.shape(6, 0, 8, f(0)), ZERO);
        DUE.is("left of floats by -0", x.shape(6, 0, 8, f(-0.0f)), ZERO);
        DUE.is("left of doubles by 0", x.shape(7, 0, 8, d(0)), ZERO);
        DUE.is("left of doubles by -0", x.shape(7, 0, 8, d(-0.0)), ZERO);
        x.write(6, 6, 0, f(Float.NEGATIVE_INFINITY));
        x.write(7, 7, 0, d(Double.POSITIVE_INFINITY));
        DUE.is("left of an endless float", x.shape(6, 0, 8, f(2)), ZERO);
        DUE.is("left of an endless double", x.shape(7, 0, 8, d(Double.POSITIVE_INFINITY)), ZERO);
        x.shape(7, 1, 7, d(-1));
        DUE.is("seen, as ever", x.seen(), seen);
    }

    private static void seenStays() {
        PatchAsks x = new PatchAsks();
        DUE.is("seen at first", x.seen(), 0);
        x.curve(0, 5, 2);
        x.write(0, 5, 0, 77);
        x.read(0, 5, 0);
        DUE.is("seen", x.seen(), 77);
        x.read(0, 5, 2);
        x.read(24, 5, 0);
        x.shape(0, 0, 8, 0);
        x.shape(0, 0, 12, 0);
        x.line(0, 0, 0);
        x.level(0, 0);
        x.ask(0, 0);
        x.turn(0, 1);
        x.width(0, 5);
        x.copy(0, 0, 0, 1, 1);
        DUE.is("seen stays", x.seen(), 77);
    }
}
