/** Runs of calls, drawn by a fixed rule, on the class and on PlainRack: every answer is the same. */
public final class RandomRunsTest {
    private static final int RUNS = 6000;
    private static final int CALLS = 128;
    private static final long[] WORDS = {
        0, 1, -1, 2, 3, -3, 7, -77, 127, 128, 255, 256, 32767, 32768, 65535, 65536, 1L << 31, -(1L << 31), (1L << 31) - 1,
        Long.MIN_VALUE, Long.MAX_VALUE, 1L << 32, (1L << 52) + 1, 1L << 53, 0x7f800000L, 0xff800000L, 0x7f800001L,
        0x7fc00000L, 0xffc00000L, 0x80000000L, 0x7ff0000000000000L, 0xfff0000000000000L, 0x7ff0000000000001L,
        0x7ff8000000000000L, 0xfff8000000000000L
    };
    private static final double[] NUMBERS = {
        0.0, -0.0, 0.25, -0.25, 0.5, -0.5, 0.75, -0.75, 1, -1, 1.5, -1.5, 2.5, -2.5, 3.5, 1e9, -1e9, 2147483647.0,
        -2147483648.0, 2147483648.5, 9.2e18, 9223372036854775807.0, -9223372036854775808.0, 1e30, -1e30, 1e-30, 1e-45,
        -1e-45, 4.9e-324, 2.2250738585072014e-308, 1.1754943508222875e-38, 3.4028234663852886e38, 1.7976931348623157e308,
        0.1, 0.3, 3.7, -3.7, 8388607.5, 8388608.5, 4503599627370495.5, 4503599627370497.5
    };

    private final Due due = new Due("RandomRunsTest");
    private long state;
    private PatchAsks rack;
    private PlainRack plain;

    public static void main(String[] args) {
        new RandomRunsTest().runAll();
    }

    private void runAll() {
        for (int run = 1; run <= RUNS && !due.anyWrong(); run++) {
            state = run * 7919L;
            rack = new PatchAsks();
            plain = new PlainRack();
            for (int k = 1; k <= CALLS && !due.anyWrong(); k++) {
                String at = "run " + run + ", call " + k + ": ";
                anyCall(at);
                due.is(at + "seen() then", rack.seen(), plain.seen());
                due.is(at + "finding() then", rack.finding(), plain.finding());
                due.is(at + "digest() then", rack.digest(), plain.digest());
            }
        }
        due.end();
    }

    private int below(int n) {
        state = state * 6364136223846793005L + 1442695040888963407L;
        return (int) ((state >>> 33) % n);
    }

    private long anyLong() {
        return ((long) below(1 << 30) << 50) ^ ((long) below(1 << 30) << 25) ^ below(1 << 30);
    }

    private int box() {
        int way = below(60);
        if (way == 0) return -1;
        if (way == 1) return 24;
        if (way == 2) return below(24);
        if (way == 3) return below(2) == 0 ? Integer.MIN_VALUE : Integer.MAX_VALUE;
        return below(7);
    }

    /** Mostly 0 .. n - 1, at times one beyond, at times far off. */
    private int about(int n) {
        int way = below(25);
        if (way == 0) return -1;
        if (way == 1) return n;
        if (way == 2) return anyInt();
        return below(n);
    }

    private int anyInt() {
        switch (below(4)) {
            case 0: return Integer.MIN_VALUE;
            case 1: return Integer.MAX_VALUE;
            case 2: return below(20) - 10;
            default: return (int) anyLong();
        }
    }

    private long word() {
        double number = NUMBERS[below(NUMBERS.length)];
        long upper = below(3) == 0 ? anyLong() << 32 : 0;
        switch (below(5)) {
            case 0: return WORDS[below(WORDS.length)];
            case 1: return upper | Float.floatToRawIntBits((float) number) & 0xffffffffL;
            case 2: return Double.doubleToRawLongBits(number);
            case 3: return below(40) - 20;
            default: return anyLong();
        }
    }

    private void anyCall(String at) {
        switch (below(10)) {
            case 0: case 1: thingCall(at); break;
            case 2: makeCall(at); break;
            case 3: case 4: case 5: curveCall(at); break;
            case 6: case 7: rowCall(at); break;
            case 8: voiceCall(at); break;
            default: toldCall(at); break;
        }
    }

    private void makeCall(String at) {
        int b = box(), s = about(8), n = about(9), m = about(9), way = below(7);
        if (way < 2) {
            int many = about(17);
            due.is(at + "curve(" + b + ", " + s + ", " + many + ")", rack.curve(b, s, many), plain.curve(b, s, many));
        } else if (way == 2) {
            due.is(at + "sheet(" + b + ", " + n + ", " + m + ")", rack.sheet(b, n, m), plain.sheet(b, n, m));
        } else if (way < 5) {
            due.is(at + "bank(" + b + ", " + s + ", " + n + ")", rack.bank(b, s, n), plain.bank(b, s, n));
        } else {
            due.is(at + "voice(" + b + ", " + s + ")", rack.voice(b, s), plain.voice(b, s));
        }
    }

    private void thingCall(String at) {
        int b = box(), c = box(), q = about(34), sort = about(10);
        switch (below(6)) {
            case 0: due.is(at + "share(" + b + ", " + c + ")", rack.share(b, c), plain.share(b, c)); break;
            case 1: if (below(4) == 0) due.is(at + "clear(" + b + ")", rack.clear(b), plain.clear(b)); break;
            case 2: due.is(at + "what(" + b + ")", rack.what(b), plain.what(b)); break;
            case 3: makeCall(at); break;
            case 4: due.is(at + "is(" + b + ", " + q + ")", rack.is(b, q), plain.is(b, q)); break;
            default: due.is(at + "width(" + b + ", " + sort + ")", rack.width(b, sort), plain.width(b, sort)); break;
        }
    }

    private void curveCall(String at) {
        int b = box(), c = box(), i = about(6), j = about(6), n = about(6);
        int held = plain.what(b);
        int lane = held >= 0 && held <= 7 && below(8) != 0 ? held : about(8);
        long word = word();
        switch (below(7)) {
            case 0: due.is(at + "read(" + b + ", " + lane + ", " + i + ")", rack.read(b, lane, i), plain.read(b, lane, i)); break;
            case 1: case 2:
                due.is(at + "write(" + b + ", " + lane + ", " + i + ", " + word + ")",
                        rack.write(b, lane, i, word), plain.write(b, lane, i, word));
                break;
            case 3:
                due.is(at + "copy(" + b + ", " + i + ", " + c + ", " + j + ", " + n + ")",
                        rack.copy(b, i, c, j, n), plain.copy(b, i, c, j, n));
                break;
            case 4: due.is(at + "grow(" + b + ", " + n + ")", rack.grow(b, n), plain.grow(b, n)); break;
            default: {
                int way = about(12);
                due.is(at + "shape(" + b + ", " + i + ", " + way + ", " + word + ")",
                        rack.shape(b, i, way, word), plain.shape(b, i, way, word));
            }
        }
    }

    private void rowCall(String at) {
        int b = box(), c = box(), i = about(5), k = about(5), v = anyInt();
        switch (below(7)) {
            case 0: due.is(at + "line(" + b + ", " + i + ", " + k + ")", rack.line(b, i, k), plain.line(b, i, k)); break;
            case 1: due.is(at + "rule(" + b + ", " + i + ", " + k + ", " + v + ")", rack.rule(b, i, k, v), plain.rule(b, i, k, v)); break;
            case 2: due.is(at + "lay(" + b + ", " + i + ", " + c + ")", rack.lay(b, i, c), plain.lay(b, i, c)); break;
            case 3: case 4: due.is(at + "set(" + b + ", " + i + ", " + c + ")", rack.set(b, i, c), plain.set(b, i, c)); break;
            case 5: due.is(at + "get(" + b + ", " + i + ")", rack.get(b, i), plain.get(b, i)); break;
            default: due.is(at + "take(" + b + ", " + i + ", " + c + ")", rack.take(b, i, c), plain.take(b, i, c)); break;
        }
    }

    private void voiceCall(String at) {
        int b = box(), as = about(3), v = anyInt(), what = about(6);
        switch (below(8)) {
            case 0: due.is(at + "level(" + b + ", " + as + ")", rack.level(b, as), plain.level(b, as)); break;
            case 1: due.is(at + "raise(" + b + ", " + as + ", " + v + ")", rack.raise(b, as, v), plain.raise(b, as, v)); break;
            case 2: case 3: due.is(at + "ask(" + b + ", " + what + ")", rack.ask(b, what), plain.ask(b, what)); break;
            case 4: due.is(at + "turn(" + b + ", " + v + ")", rack.turn(b, v), plain.turn(b, v)); break;
            case 5: {
                boolean on = below(2) == 0;
                due.is(at + "arm(" + b + ", " + on + ")", rack.arm(b, on), plain.arm(b, on));
                break;
            }
            default: due.is(at + "fail(" + b + ")", rack.fail(b), plain.fail(b)); break;
        }
    }

    private void toldCall(String at) {
        int k = about(8), f = about(8), what = about(4);
        switch (below(3)) {
            case 0: due.is(at + "trace(" + k + ")", rack.trace(k), plain.trace(k)); break;
            case 1: due.is(at + "findings(" + f + ")", rack.findings(f), plain.findings(f)); break;
            default: due.is(at + "about(" + what + ")", rack.about(what), plain.about(what)); break;
        }
    }
}
