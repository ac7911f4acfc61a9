/** The edges of promise 15, sentence by sentence. */
public final class EdgesShapeTest {
    private static final int LEAST = Edges.LEAST, MOST = Edges.MOST, FREE = Edges.FREE;
    private static final int NULL = Edges.NULL, INDEX = Edges.INDEX, CAST = Edges.CAST, OUTSIDE = Edges.OUTSIDE;
    private static final int ZERO = Edges.ZERO;
    private static final double ENDLESS = Double.POSITIVE_INFINITY;
    private static final long NO_FLOAT = 0x7fc00000L, NO_DOUBLE = 0x7ff8000000000000L;
    private static final long LEAST_LONG = Long.MIN_VALUE, MOST_LONG = Long.MAX_VALUE;
    private static Edges edges;

    public static void main(String[] args) throws Exception {
        edges = new Edges("EdgesShapeTest");
        edges.promise(15);
        seenAlone();
        toldInLane();
        size();
        floor();
        ceiling();
        nearest();
        zerosKeepSign();
        sign();
        greater();
        lesser();
        signOf();
        left();
        leftOfFloating();
        leftWithoutLoss();
        asLong();
        asInt();
        by();
        wordOfIt();
        refused();
        wayThatItHasNot();
        noNumber();
        index();
        zero();
        edges.end();
    }

    private static long f(double x) {
        return Float.floatToRawIntBits((float) x);
    }

    private static long d(double x) {
        return Double.doubleToRawLongBits(x);
    }

    /** Number 1 of full()'s curve of the lane becomes x; what comes of it is seen; nothing else changes. */
    private static void shaped(int lane, long x, int way, long y, long want) {
        String call = "lane " + lane + ", x = " + x + ", shape(" + lane + ", 1, " + way + ", " + y + ")";
        PatchAsks rack = Edges.full();
        edges.is(call + ", x is written", rack.write(lane, lane, 1, x), 0);
        long h = rack.digest();
        edges.sees(rack, call, rack.shape(lane, 1, way, y), want);
        edges.is(call + ", x stays", rack.digest(), h);
    }

    /** In both lanes of whole numbers. */
    private static void whole(long x, int way, long y, long want) {
        shaped(4, x, way, y, want);
        shaped(5, x, way, y, want);
    }

    /** In floats and doubles; all the numbers are floats. */
    private static void floating(double x, int way, double y, double want) {
        shaped(6, f(x), way, f(y), f(want));
        shaped(7, d(x), way, d(y), d(want));
    }

    private static void doubles(double x, int way, double y, double want) {
        shaped(7, d(x), way, d(y), d(want));
    }

    private static void seenAlone() {
        edges.says("SEEN becomes what comes of number x, at i, of a CURVE of ints, longs, floats, doubles");
        for (int lane = 4; lane <= 7; lane++) {
            for (int i = 0; i < 3; i++) {
                int l = lane, at = i;
                PatchAsks x = Edges.full();
                long size = Math.abs(lane == 6 ? Edges.wordIn(6, i) & MOST : Edges.wordIn(lane, i) & MOST_LONG);
                edges.sees(x, "shape(" + lane + ", " + i + ", 0, 0)", x.shape(lane, i, 0, 0), size);
                for (int way = 0; way <= 11; way++) {
                    int w = way;
                    if (!hasWay(lane, way)) continue;
                    edges.left("shape(" + l + ", " + at + ", " + w + ", 3)", 0, Edges.SEEN, y -> y.shape(l, at, w, 3));
                }
            }
        }
        PatchAsks x = new PatchAsks();
        x.curve(23, 4, 16);
        x.write(23, 4, 15, -9);
        edges.sees(x, "the last of 16", x.shape(23, 15, 0, 0), 9);
    }

    private static boolean hasWay(int lane, int way) {
        boolean floatingAlone = way >= 1 && way <= 4 || way == 7;
        return lane >= 6 ? way != 11 : lane >= 4 && !floatingAlone;
    }

    private static void toldInLane() {
        edges.says(", y being what the WORD tells in this LANE (way):");
        shaped(4, 5, 5, (1L << 32) + 3, 5);
        shaped(4, 5, 6, (1L << 32) + 3, 3);
        shaped(4, 5, 5, 0x80000000L, 5);
        shaped(4, 5, 6, 0x80000000L, LEAST);
        shaped(4, 17, 8, (7L << 32) + 5, 2);
        shaped(4, 17, 11, (7L << 32) + 5, 3);
        shaped(5, 5, 5, (1L << 32) + 3, (1L << 32) + 3);
        shaped(5, 5, 6, 0x80000000L, 5);
        shaped(6, f(1), 5, (9L << 32) | f(3), f(3));
        shaped(6, f(1), 5, NO_DOUBLE | f(3), f(3));
        shaped(6, f(1), 7, (9L << 32) | 0x80000000L, f(-1));
        shaped(6, f(1), 7, LEAST_LONG, f(1));
        shaped(7, d(-1), 7, 0x80000000L, d(1));
        shaped(7, d(1), 7, LEAST_LONG, d(-1));
    }

    private static void size() {
        edges.says("0 the size of x (the least whole one stays);");
        for (long x : new long[] {0, 1, 7, MOST}) {
            whole(x, 0, 0, x);
            whole(-x, 0, 0, x);
        }
        shaped(4, LEAST, 0, 0, LEAST);
        shaped(4, LEAST + 1, 0, 0, MOST);
        shaped(5, LEAST, 0, 0, 1L << 31);
        shaped(5, LEAST_LONG, 0, 0, LEAST_LONG);
        shaped(5, LEAST_LONG + 1, 0, 0, MOST_LONG);
        shaped(5, MOST_LONG, 0, 0, MOST_LONG);
        for (double x : new double[] {0, 0.5, 2.5, Float.MIN_VALUE, Float.MAX_VALUE, ENDLESS}) {
            floating(x, 0, 0, x);
            floating(-x, 0, 0, x);
        }
        doubles(-Double.MIN_VALUE, 0, 0, Double.MIN_VALUE);
        doubles(-Double.MAX_VALUE, 0, 0, Double.MAX_VALUE);
    }

    private static void floor() {
        edges.says("1 the greatest whole number that is not above it,");
        double[][] rows = {{2, 2}, {2.25, 2}, {2.5, 2}, {2.75, 2}, {3, 3}, {-2, -2}, {-2.25, -3}, {-2.5, -3},
            {-2.75, -3}, {0.25, 0}, {0.99999994, 0}, {1, 1}, {1.00000012, 1}, {-0.25, -1}, {-1, -1}, {-1.5, -2},
            {Float.MIN_VALUE, 0}, {-Float.MIN_VALUE, -1}, {8388607.5, 8388607}, {-8388607.5, -8388608},
            {8388608, 8388608}, {4194303.75, 4194303}, {1e10, 1e10}, {-1e30f, -1e30f}, {Float.MAX_VALUE, Float.MAX_VALUE},
            {ENDLESS, ENDLESS}, {-ENDLESS, -ENDLESS}};
        for (double[] row : rows) floating(row[0], 1, 0, row[1]);
        doubles(0.9999999999999999, 1, 0, 0);
        doubles(-Double.MIN_VALUE, 1, 0, -1);
        doubles(4503599627370495.5, 1, 0, 4503599627370495.0);
        doubles(-4503599627370495.5, 1, 0, -4503599627370496.0);
        doubles(-9007199254740991.0, 1, 0, -9007199254740991.0);
    }

    private static void ceiling() {
        edges.says("2 the least one that is not below it,");
        double[][] rows = {{2, 2}, {2.25, 3}, {2.5, 3}, {2.75, 3}, {3, 3}, {-2, -2}, {-2.25, -2}, {-2.75, -2},
            {0.25, 1}, {0.99999994, 1}, {1, 1}, {1.00000012, 2}, {-1, -1}, {-1.5, -1}, {Float.MIN_VALUE, 1},
            {8388607.5, 8388608}, {-8388607.5, -8388607}, {8388608, 8388608}, {-1e30f, -1e30f},
            {Float.MAX_VALUE, Float.MAX_VALUE}, {ENDLESS, ENDLESS}, {-ENDLESS, -ENDLESS}};
        for (double[] row : rows) floating(row[0], 2, 0, row[1]);
        doubles(Double.MIN_VALUE, 2, 0, 1);
        doubles(1.0000000000000002, 2, 0, 2);
        doubles(4503599627370495.5, 2, 0, 4503599627370496.0);
        doubles(-4503599627370495.5, 2, 0, -4503599627370495.0);
    }

    private static void nearest() {
        edges.says("3 the nearest one, of two the even one");
        double[][] rows = {{2, 2}, {2.25, 2}, {2.375, 2}, {2.5, 2}, {2.625, 3}, {2.75, 3}, {3.25, 3}, {3.375, 3},
            {3.5, 4}, {3.625, 4}, {3.75, 4}, {-2.5, -2}, {-2.625, -3}, {-3.375, -3}, {-3.5, -4}, {-3.75, -4},
            {0.25, 0}, {0.49999997, 0}, {0.5, 0}, {0.50000006, 1}, {0.75, 1}, {-0.50000006, -1}, {-0.75, -1}, {1, 1},
            {1.25, 1}, {1.5, 2}, {-1.5, -2}, {1.75, 2}, {Float.MIN_VALUE, 0}, {8388606.5, 8388606},
            {8388607.5, 8388608}, {8388609, 8388609}, {4194303.25, 4194303}, {4194303.5, 4194304},
            {-1e30f, -1e30f}, {ENDLESS, ENDLESS}, {-ENDLESS, -ENDLESS}};
        for (double[] row : rows) floating(row[0], 3, 0, row[1]);
        doubles(0.49999999999999994, 3, 0, 0);
        doubles(0.5000000000000001, 3, 0, 1);
        doubles(4503599627370494.5, 3, 0, 4503599627370494.0);
        doubles(4503599627370495.5, 3, 0, 4503599627370496.0);
        doubles(4503599627370497.0, 3, 0, 4503599627370497.0);
        doubles(2251799813685247.25, 3, 0, 2251799813685247.0);
    }

    private static void zerosKeepSign() {
        edges.says("(of those three: if that is 0, with the sign of x),");
        for (int way = 1; way <= 3; way++) {
            floating(0.0, way, 0, 0.0);
            floating(-0.0, way, 0, -0.0);
        }
        for (double x : new double[] {Float.MIN_VALUE, 0.25, 0.5}) {
            floating(x, 1, -1, 0.0);
            floating(-x, 2, 1, -0.0);
            floating(x, 3, -1, 0.0);
            floating(-x, 3, 1, -0.0);
        }
        floating(0.75, 1, -1, 0.0);
        floating(-0.75, 2, 1, -0.0);
    }

    private static void sign() {
        edges.says("4 its sign: 1.0, -1.0 (x itself, if it is 0.0, -0.0);");
        for (double x : new double[] {Float.MIN_VALUE, 0.5, 1, 77, Float.MAX_VALUE, ENDLESS}) {
            floating(x, 4, 0, 1.0);
            floating(-x, 4, 0, -1.0);
        }
        floating(0.0, 4, -5, 0.0);
        floating(-0.0, 4, 5, -0.0);
    }

    private static void greater() {
        edges.says("5 the greater of x and y,");
        long[][] rows = {{1, 2, 2}, {2, 1, 2}, {-1, -2, -1}, {-2, -1, -1}, {3, 3, 3}, {LEAST, MOST, MOST}, {MOST, LEAST, MOST}};
        for (long[] row : rows) whole(row[0], 5, row[1], row[2]);
        shaped(5, LEAST_LONG, 5, MOST_LONG, MOST_LONG);
        double[][] more = {{1, 2, 2}, {2, 1, 2}, {-1, -2, -1}, {-2, -1, -1}, {0.0, -0.0, 0.0}, {-0.0, 0.0, 0.0},
            {-0.0, -0.0, -0.0}, {0.0, 0.0, 0.0}, {-0.0, -Float.MIN_VALUE, -0.0}, {-Float.MIN_VALUE, -0.0, -0.0},
            {Float.MIN_VALUE, 0.0, Float.MIN_VALUE}, {ENDLESS, 1, ENDLESS}, {1, ENDLESS, ENDLESS}, {-ENDLESS, 1, 1},
            {-ENDLESS, ENDLESS, ENDLESS}, {-ENDLESS, -Float.MAX_VALUE, -Float.MAX_VALUE}};
        for (double[] row : more) floating(row[0], 5, row[1], row[2]);
    }

    private static void lesser() {
        edges.says("6 the lesser (-0.0 is below 0.0);");
        long[][] rows = {{1, 2, 1}, {2, 1, 1}, {-1, -2, -2}, {-2, -1, -2}, {3, 3, 3}, {LEAST, MOST, LEAST}, {MOST, LEAST, LEAST}};
        for (long[] row : rows) whole(row[0], 6, row[1], row[2]);
        shaped(5, MOST_LONG, 6, LEAST_LONG, LEAST_LONG);
        double[][] less = {{1, 2, 1}, {2, 1, 1}, {-1, -2, -2}, {-2, -1, -2}, {0.0, -0.0, -0.0}, {-0.0, 0.0, -0.0},
            {0.0, 0.0, 0.0}, {-0.0, -Float.MIN_VALUE, -Float.MIN_VALUE}, {-Float.MIN_VALUE, -0.0, -Float.MIN_VALUE},
            {Float.MIN_VALUE, 0.0, 0.0}, {-ENDLESS, 1, -ENDLESS}, {1, -ENDLESS, -ENDLESS}, {ENDLESS, 1, 1},
            {ENDLESS, Float.MAX_VALUE, Float.MAX_VALUE}};
        for (double[] row : less) floating(row[0], 6, row[1], row[2]);
    }

    private static void signOf() {
        edges.says("7 x with the sign of y;");
        for (double x : new double[] {0, Float.MIN_VALUE, 2.5, Float.MAX_VALUE, ENDLESS}) {
            for (double y : new double[] {0, Float.MIN_VALUE, 7, ENDLESS}) {
                floating(x, 7, y, x);
                floating(-x, 7, y, x);
                floating(x, 7, -y, -x);
                floating(-x, 7, -y, -x);
            }
        }
    }

    private static void left() {
        edges.says("8 what is left of x by y (with the sign of x);");
        long[][] rows = {{7, 3, 1}, {-7, 3, -1}, {7, -3, 1}, {-7, -3, -1}, {6, 3, 0}, {-6, 3, 0}, {2, 3, 2}, {0, 3, 0},
            {7, 1, 0}, {7, -1, 0}, {MOST, 10, 7}, {LEAST, 10, -8}, {LEAST, LEAST, 0}, {MOST, LEAST, MOST}};
        for (long[] row : rows) whole(row[0], 8, row[1], row[2]);
        shaped(4, LEAST, 8, -1, 0);
        shaped(5, LEAST_LONG, 8, -1, 0);
        shaped(5, LEAST_LONG, 8, MOST_LONG, -1);
        shaped(5, MOST_LONG, 8, 10, 7);
    }

    private static void leftOfFloating() {
        double[][] rows = {{7.5, 2, 1.5}, {-7.5, 2, -1.5}, {7.5, -2, 1.5}, {-7.5, -2, -1.5}, {6, 2, 0.0}, {-6, 2, -0.0},
            {6, -2, 0.0}, {-6, -2, -0.0}, {1, 2, 1}, {-1, 2, -1}, {2, 2, 0.0}, {0.0, 2, 0.0}, {-0.0, 2, -0.0},
            {0.0, -2, 0.0}, {3, ENDLESS, 3}, {-3, ENDLESS, -3}, {-3, -ENDLESS, -3}, {-0.0, ENDLESS, -0.0},
            {1.75, 1.25, 0.5}, {1.25, 1.75, 1.25}, {5, 0.75, 0.5}, {Float.MAX_VALUE, Float.MAX_VALUE, 0.0},
            {Float.MIN_VALUE, Float.MIN_VALUE, 0.0}, {Float.MIN_VALUE, 1, Float.MIN_VALUE},
            {7 * Float.MIN_VALUE, 3 * Float.MIN_VALUE, Float.MIN_VALUE}};
        for (double[] row : rows) floating(row[0], 8, row[1], row[2]);
        doubles(7 * Double.MIN_VALUE, 8, 3 * Double.MIN_VALUE, Double.MIN_VALUE);
        doubles(-Double.MAX_VALUE, 8, Double.MIN_VALUE, -0.0);
        // 0.0 keeps its sign by numbers of the least power, too
        for (long y : new long[] {1, 0x007fffffL, 0x00800000L, 0x80000001L}) {
            shaped(6, 0, 8, y, 0);
            shaped(6, LEAST, 8, y, LEAST);
        }
        for (long y : new long[] {1, 0x000fffffffffffffL, 0x0010000000000000L, LEAST_LONG + 1}) {
            shaped(7, 0, 8, y, 0);
            shaped(7, LEAST_LONG, 8, y, LEAST_LONG);
        }
        // rests that go down to the least power, with and without a leading digit
        shaped(6, 0x01c00000L, 8, 0x01800000L, 0x01000000L);
        shaped(6, 0x01e00000L, 8, 0x01c00000L, 0x00800000L);
        shaped(6, 0x01d00000L, 8, 0x01c00000L, 0x00400000L);
        shaped(6, 0x81d00001, 8, 0x01c00000L, 0x80400004);
        shaped(6, 0x00800001L, 8, 0x00800000L, 1);
        shaped(6, 0x00800000L, 8, 0x007fffffL, 1);
        shaped(6, 0x01000001L, 8, 0x00800001L, 0);
        shaped(7, 0x003c000000000000L, 8, 0x0038000000000000L, 0x0010000000000000L);
        shaped(7, 0x003a000000000000L, 8, 0x0038000000000000L, 0x0008000000000000L);
        shaped(7, 0x803a000000000001L, 8, 0x0038000000000000L, 0x8008000000000004L);
        shaped(7, 0x0010000000000000L, 8, 0x000fffffffffffffL, 1);
    }

    /** Powers of 2 by 11 and 13: 2 has the orders 10 and 12 there, so a lost or doubled step tells. */
    private static void leftWithoutLoss() {
        int[] by11 = {1, 2, 4, 8, 5, 10, 9, 7, 3, 6};
        int[] by13 = {1, 2, 4, 8, 3, 6, 12, 11, 9, 5, 10, 7};
        for (int power : new int[] {4, 9, 10, 11, 19, 20, 21, 29, 30, 31, 50, 63, 64, 99, 100, 101, 126, 127}) {
            floating(Math.pow(2, power), 8, 11, by11[power % 10]);
            floating(-Math.pow(2, power), 8, 13, -by13[power % 12]);
        }
        for (int power : new int[] {128, 129, 500, 511, 512, 1000, 1013, 1022, 1023}) {
            doubles(Math.pow(2, power), 8, 11, by11[power % 10]);
            doubles(-Math.pow(2, power), 8, -13, -by13[power % 12]);
        }
        // divisors with all their digits: by way of whole numbers of any length
        long[] digits = {0x1fffffffffffffL, 0x1ffffffffffffdL, 0x10000000000001L, 0x15555555555555L};
        for (long x : digits) {
            for (long y : digits) {
                for (int power : new int[] {1, 9, 10, 11, 20, 63, 900}) leftOfLong(x, power, y);
            }
        }
    }

    private static void leftOfLong(long digits, int power, long by) {
        java.math.BigInteger x = java.math.BigInteger.valueOf(digits).shiftLeft(power);
        long rest = x.mod(java.math.BigInteger.valueOf(by)).longValue();
        doubles(digits * Math.pow(2, power), 8, by, rest);
        doubles(-digits * Math.pow(2, power), 8, by, rest == 0 ? -0.0 : -rest);
    }

    private static void asLong() {
        edges.says("9 x as a long,");
        for (long x : new long[] {0, 1, -1, 77, LEAST, MOST}) whole(x, 9, 5, x);
        shaped(5, LEAST_LONG, 9, 0, LEAST_LONG);
        shaped(5, MOST_LONG, 9, 0, MOST_LONG);
        cutBoth(9);
        cut(9, 2147483648.0, 2147483648L);
        cut(9, -4294967296.0, -4294967296L);
        cut(9, 9223371487098961920.0, 9223371487098961920L);
        cut(9, 9223372036854775808.0, MOST_LONG);
        cut(9, -9223372036854775808.0, LEAST_LONG);
        cut(9, -9223373136366403584.0, LEAST_LONG);
        cut(9, Float.MAX_VALUE, MOST_LONG);
        cut(9, -Float.MAX_VALUE, LEAST_LONG);
        cut(9, ENDLESS, MOST_LONG);
        cut(9, -ENDLESS, LEAST_LONG);
        shaped(7, d(9223372036854774784.0), 9, 0, 9223372036854774784L);
        shaped(7, d(-9223372036854774784.0), 9, 0, -9223372036854774784L);
        shaped(7, d(4503599627370496.0), 9, 0, 4503599627370496L);
        shaped(7, d(9007199254740993.0 * 2), 9, 0, (long) (9007199254740993.0 * 2));
        shaped(7, d(-4503599627370495.5), 9, 0, -4503599627370495L);
    }

    private static void cut(int way, double x, long want) {
        shaped(6, f(x), way, 0, want);
        shaped(7, d(x), way, 0, want);
    }

    /** What ways 9 and 10 cut alike. */
    private static void cutBoth(int way) {
        double[] none = {0.0, -0.0, Float.MIN_VALUE, -Float.MIN_VALUE, 0.25, 0.5, -0.5, 0.75, 0.99999994, -0.99999994};
        for (double x : none) cut(way, x, 0);
        for (int power = 1; power <= 126; power++) {
            cut(way, Math.pow(2, -power), 0);
            cut(way, -Math.pow(2, -power), 0);
        }
        double[][] rows = {{1, 1}, {1.5, 1}, {-1.5, -1}, {1.99999988, 1}, {2, 2}, {-3.75, -3}, {8388607.5, 8388607},
            {8388608, 8388608}, {16777216, 16777216}, {-16777218, -16777218}};
        for (double[] row : rows) cut(way, row[0], (long) row[1]);
        for (int power = 0; power <= 30; power++) {
            cut(way, Math.pow(2, power), 1L << power);
            cut(way, -Math.pow(2, power), -1L << power);
        }
        shaped(7, d(Double.MIN_VALUE), way, 0, 0);
        shaped(7, d(Math.pow(2, -1000)), way, 0, 0);
    }

    private static void asInt() {
        edges.says("10 as an int (floats, doubles: cut; beyond: the least, the greatest one; a long: its lowest 32 bits);");
        for (long x : new long[] {0, 1, -1, 77, LEAST, MOST}) whole(x, 10, 5, x);
        shaped(5, MOST + 1L, 10, 0, LEAST);
        shaped(5, LEAST - 1L, 10, 0, MOST);
        shaped(5, 1L << 32, 10, 0, 0);
        shaped(5, LEAST_LONG, 10, 0, 0);
        shaped(5, MOST_LONG, 10, 0, -1);
        shaped(5, (9L << 32) + 6, 10, 0, 6);
        cutBoth(10);
        cut(10, 2147483520.0, 2147483520);
        cut(10, 2147483648.0, MOST);
        cut(10, -2147483648.0, LEAST);
        cut(10, -2147483904.0, LEAST);
        cut(10, 1e30f, MOST);
        cut(10, -1e30f, LEAST);
        cut(10, ENDLESS, MOST);
        cut(10, -ENDLESS, LEAST);
        shaped(7, d(2147483646.75), 10, 0, 2147483646);
        shaped(7, d(2147483647.0), 10, 0, MOST);
        shaped(7, d(2147483647.75), 10, 0, MOST);
        shaped(7, d(-2147483647.75), 10, 0, -2147483647);
        shaped(7, d(-2147483648.75), 10, 0, LEAST);
        shaped(7, d(-2147483649.0), 10, 0, LEAST);
        shaped(7, d(4294967297.0), 10, 0, MOST);
    }

    private static void by() {
        edges.says("11 x by y, cut.");
        long[][] rows = {{7, 2, 3}, {-7, 2, -3}, {7, -2, -3}, {-7, -2, 3}, {6, 2, 3}, {1, 2, 0}, {-1, 2, 0}, {0, 5, 0},
            {7, 1, 7}, {7, -1, -7}, {MOST, MOST, 1}, {MOST, -1, -(long) MOST}, {LEAST, 1, LEAST}, {LEAST, LEAST, 1},
            {MOST, LEAST, 0}, {LEAST, 2, LEAST / 2}};
        for (long[] row : rows) whole(row[0], 11, row[1], row[2]);
        shaped(4, LEAST, 11, -1, LEAST);
        shaped(5, LEAST, 11, -1, 1L << 31);
        shaped(5, LEAST_LONG, 11, -1, LEAST_LONG);
        shaped(5, MOST_LONG, 11, LEAST_LONG, 0);
    }

    private static void wordOfIt() {
        edges.says("SEEN is its WORD (of 9, 10 the whole number). 0.");
        shaped(6, f(-2.5), 1, 0, 0xffffffffc0400000L);
        shaped(6, f(2.5), 1, 0, 0x40000000L);
        shaped(6, f(-0.5), 2, 0, 0xffffffff80000000L);
        shaped(6, f(-2.5), 0, 0, 0x40200000L);
        shaped(6, f(-2.5), 4, 0, 0xffffffffbf800000L);
        shaped(6, f(2.5), 7, f(-1), 0xffffffffc0200000L);
        shaped(6, f(-2.5), 9, 0, -2);
        shaped(6, f(-2.5), 10, 0, -2);
        shaped(7, d(-2.5), 1, 0, 0xc008000000000000L);
        shaped(7, d(-0.5), 2, 0, 0x8000000000000000L);
        shaped(7, d(2.5), 4, 0, 0x3ff0000000000000L);
        shaped(7, d(-2.5), 9, 0, -2);
        shaped(7, d(-2.5), 10, 0, -2);
        shaped(4, -7, 11, 2, -3);
    }

    private static void refused() {
        edges.says("UNKNOWN;");
        edges.unknown("shape(v, 0, 0, 0)", (x, v) -> x.shape(v, 0, 0, 0));
        edges.unknown("shape(v, 9, 12, 0)", (x, v) -> x.shape(v, 9, 12, 0));
        edges.says("OUTSIDE: way 0 .. 11;");
        for (int b : new int[] {0, 4, 6, Edges.SHEET, Edges.TONE, FREE}) {
            edges.refused("shape(" + b + ", 0, v, 1)", OUTSIDE, (x, v) -> x.shape(b, 0, v, 1), -1, 12, 13, LEAST, MOST);
            edges.refused("shape(" + b + ", 3, v, 0)", OUTSIDE, (x, v) -> x.shape(b, 3, v, 0), -1, 12, LEAST, MOST);
        }
        edges.says("NULL;");
        for (int way = 0; way <= 11; way++) {
            int w = way;
            edges.refused("shape(19, v, " + way + ", 0)", NULL, (x, v) -> x.shape(FREE, v, w, 0), 0, 3, -1);
            edges.refused("shape(19, 0, " + way + ", no number)", NULL, x -> x.shape(FREE, 0, w, -1));
        }
        edges.says("CAST: no such CURVE;");
        for (int way = 0; way <= 11; way++) {
            int w = way;
            for (int b : new int[] {0, 1, 2, 3, Edges.SHEET, Edges.BELLS, Edges.TONE, Edges.DRUM, Edges.NO_PLACES}) {
                edges.refused("shape(" + b + ", v, " + way + ", 0)", CAST, (x, v) -> x.shape(b, v, w, 0), 0, 3);
                edges.refused("shape(" + b + ", 0, " + way + ", no number)", CAST, x -> x.shape(b, 0, w, -1));
            }
        }
    }

    private static void wayThatItHasNot() {
        edges.says("or a way that it has not (1 to 4, 7: floats, doubles alone; 11 ints, longs alone);");
        for (int way = 0; way <= 11; way++) {
            for (int lane = 4; lane <= 7; lane++) {
                int w = way, l = lane;
                String call = "shape(" + lane + ", v, " + way + ", 1)";
                if (hasWay(lane, way)) {
                    edges.left(call + ", v = 0", 0, Edges.SEEN, x -> x.shape(l, 0, w, 1));
                } else {
                    edges.refused(call, CAST, (x, v) -> x.shape(l, v, w, 1), 0, 3, -1);
                    edges.refused(call + " by 0", CAST, x -> x.shape(l, 0, w, 0));
                    edges.refused(call + " by no number", CAST, x -> x.shape(l, 0, w, -1));
                }
            }
        }
    }

    private static void noNumber() {
        edges.says("OUTSIDE: the WORD tells no number (float, double; 5 to 8 alone);");
        long[] noFloats = {0x7f800001L, NO_FLOAT, 0x7fffffffL, 0xff800001L, 0xffc00000L, -1, (1L << 32) | NO_FLOAT};
        long[] noDoubles = {0x7ff0000000000001L, NO_DOUBLE, MOST_LONG, 0xfff0000000000001L, -1};
        for (int way = 0; way <= 10; way++) {
            for (long word : noFloats) wordOfNone(6, way, word);
            for (long word : noDoubles) wordOfNone(7, way, word);
        }
        for (int way = 5; way <= 8; way++) {
            int w = way;
            edges.left("no float, but a double", 0, Edges.SEEN, x -> x.shape(7, 0, w, NO_FLOAT));
            edges.left("no double, but a float", w == 8 ? ZERO : 0, Edges.SEEN, x -> x.shape(6, 0, w, NO_DOUBLE));
            for (int lane = 4; lane <= 5; lane++) {
                int l = lane;
                if (w != 7) edges.left("whole lanes take every word", 0, Edges.SEEN, x -> x.shape(l, 0, w, NO_DOUBLE | NO_FLOAT));
            }
        }
    }

    private static void wordOfNone(int lane, int way, long word) {
        String call = "shape(" + lane + ", v, " + way + ", " + word + ")";
        if (way >= 5 && way <= 8) {
            edges.refused(call, OUTSIDE, (x, v) -> x.shape(lane, v, way, word), 0, 3, -1);
        } else {
            edges.left(call + ", v = 0", 0, Edges.SEEN, x -> x.shape(lane, 0, way, word));
            edges.refused(call, INDEX, (x, v) -> x.shape(lane, v, way, word), 3);
        }
    }

    private static void index() {
        edges.says("INDEX;");
        for (int lane = 4; lane <= 7; lane++) {
            for (int way = 0; way <= 11; way++) {
                int l = lane, w = way;
                if (!hasWay(lane, way)) continue;
                String call = "shape(" + lane + ", v, " + way + ", ";
                edges.refused(call + "1)", INDEX, (x, v) -> x.shape(l, v, w, 1), -1, 3, 4, LEAST, MOST);
                edges.refused(call + "0)", INDEX, (x, v) -> x.shape(l, v, w, 0), -1, 3, LEAST, MOST);
            }
        }
        edges.refused("shape(17, v, 0, 0) of no numbers", INDEX, (x, v) -> x.shape(Edges.NO_INTS, v, 0, 0), 0, -1, LEAST, MOST);
    }

    private static void found(int lane, long x, int way, long y) {
        PatchAsks rack = Edges.full();
        rack.write(lane, lane, 1, x);
        long seen = rack.seen(), h = rack.digest();
        String call = "lane " + lane + ", x = " + x + ", shape(" + lane + ", 1, " + way + ", " + y + ")";
        edges.is(call, rack.shape(lane, 1, way, y), ZERO);
        edges.is(call + ", finding()", rack.finding(), 6);
        edges.is(call + ", findings(6)", rack.findings(6), 1);
        edges.is(call + ", seen()", rack.seen(), seen);
        edges.is(call + ", digest()", rack.digest(), h);
    }

    private static void zero() {
        edges.says("ZERO: 8, 11, y is 0, or (8) x is endless.");
        for (int way = 8; way <= 11; way += 3) {
            for (long x : new long[] {0, 1, -1, LEAST, MOST}) {
                found(4, x, way, 0);
                found(4, x, way, 1L << 32);
                found(4, x, way, LEAST_LONG);
                found(5, x, way, 0);
            }
            found(5, LEAST_LONG, way, 0);
            // words that would be endless doubles and 0.0 are whole numbers here
            shaped(5, 0x7ff0000000000000L, way, 0x7ff0000000000000L, way == 8 ? 0 : 1);
            shaped(5, d(-ENDLESS), way, d(-ENDLESS), way == 8 ? 0 : 1);
            shaped(5, 5, way, LEAST_LONG, way == 8 ? 5 : 0);
            shaped(4, 0x7f800000L, way, 0x7f800000L, way == 8 ? 0 : 1);
            shaped(4, 5, way, 0x80000000L, way == 8 ? 5 : 0);
        }
        for (double x : new double[] {0.0, -0.0, 1, -2.5, Float.MAX_VALUE, ENDLESS, -ENDLESS}) {
            for (double y : new double[] {0.0, -0.0}) {
                found(6, f(x), 8, f(y));
                found(7, d(x), 8, d(y));
            }
        }
        found(6, f(1), 8, 1L << 32);
        for (double x : new double[] {ENDLESS, -ENDLESS}) {
            for (double y : new double[] {1, -2, Float.MIN_VALUE, ENDLESS, -ENDLESS}) {
                found(6, f(x), 8, f(y));
                found(7, d(x), 8, d(y));
            }
        }
        shaped(6, f(1), 8, 1, 0);
        shaped(7, d(1), 8, 1, 0);
    }
}
