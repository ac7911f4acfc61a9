/** Promise 15 over every pair of numbers of a pool, every way and every lane, held against PlainRack. */
public final class ShapePairsTest {
    private static final double[] NUMBERS = {
        0.0, 0.25, 0.49999999999999994, 0.5, 0.50000006, 0.75, 0.99999994, 1, 1.25, 1.5, 1.75, 2.5, 3, 3.5, 7.3, 10,
        1e6, 8388606.5, 8388607.5, 8388608, 16777215, 2147483520.0, 2147483647.0, 2147483647.5, 2147483648.0,
        2147483649.0, 4503599627370495.5, 4503599627370496.0, 9007199254740991.0, 9223371487098961920.0,
        9223372036854774784.0, 9223372036854775808.0, 1.8e19, 1e30, 1e-30, 1e-38, 1e-45, 1.1754943508222875e-38,
        1.1754942106924411e-38, 3.4028234663852886e38, 4.9e-324, 1.5e-323, 2.225073858507201e-308,
        2.2250738585072014e-308, 1.7976931348623157e308, Double.POSITIVE_INFINITY, Double.NaN
    };
    private static final long[] WHOLE = {
        0, 1, -1, 2, -2, 3, -3, 7, -7, 10, 100, -100, Integer.MAX_VALUE, Integer.MIN_VALUE, Integer.MAX_VALUE + 1L,
        Integer.MIN_VALUE - 1L, 1L << 32, -(1L << 32), 0x123456789abcdefL, Long.MAX_VALUE, Long.MIN_VALUE,
        Long.MIN_VALUE + 1
    };

    private static final Due DUE = new Due("ShapePairsTest");

    public static void main(String[] args) {
        long[] floats = new long[2 * NUMBERS.length];
        long[] doubles = new long[2 * NUMBERS.length];
        for (int i = 0; i < NUMBERS.length; i++) {
            floats[2 * i] = Float.floatToRawIntBits((float) NUMBERS[i]);
            floats[2 * i + 1] = floats[2 * i] ^ Integer.MIN_VALUE;
            doubles[2 * i] = Double.doubleToRawLongBits(NUMBERS[i]);
            doubles[2 * i + 1] = doubles[2 * i] ^ Long.MIN_VALUE;
        }
        for (int lane = 0; lane <= 5; lane++) allPairs(lane, WHOLE);
        allPairs(6, floats);
        allPairs(7, doubles);
        for (int lane = 4; lane <= 7; lane++) drawnPairs(lane);
        DUE.end();
    }

    private static void allPairs(int lane, long[] words) {
        for (long x : words) {
            for (long y : words) onePair(lane, x, y);
        }
    }

    /** Words drawn by a fixed rule; y at times near x, as only then much is left of x by y. */
    private static void drawnPairs(int lane) {
        long state = 12345;
        for (int k = 0; k < 4000; k++) {
            state = state * 6364136223846793005L + 1442695040888963407L;
            long x = state ^ (state >>> 29);
            state = state * 6364136223846793005L + 1442695040888963407L;
            long other = state ^ (state >>> 29);
            long y = k % 2 == 0 ? other : x ^ (lane == 6 ? other >>> (33 + k % 9) : other >>> (2 + k % 60));
            onePair(lane, x, y);
        }
    }

    private static void onePair(int lane, long x, long y) {
        PatchAsks rack = new PatchAsks();
        PlainRack plain = new PlainRack();
        String at = "lane " + lane + ", x " + x + ", y " + y + ": ";
        DUE.is(at + "curve", rack.curve(1, lane, 2), plain.curve(1, lane, 2));
        DUE.is(at + "write", rack.write(1, lane, 1, x), plain.write(1, lane, 1, x));
        for (int way = -1; way <= 12; way++) {
            DUE.is(at + "shape, way " + way, rack.shape(1, 1, way, y), plain.shape(1, 1, way, y));
            DUE.is(at + "seen, way " + way, rack.seen(), plain.seen());
        }
        DUE.is(at + "digest", rack.digest(), plain.digest());
    }
}
