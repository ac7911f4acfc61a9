/**
 * The document once more, told by Java's own arrays, classes and exceptions: typed rows, fields that hide,
 * overridden methods, and the machine's findings caught. The class under test may do none of this, so the two
 * have next to nothing in common and can be compared call by call.
 */
final class PlainRack {
    private static final int UNKNOWN = -101, OUTSIDE = -102, FULL = -104;

    private interface Call {
        int run();
    }

    private interface Heard {
        int heard();
    }

    private static final class Trouble extends RuntimeException {
        private static final long serialVersionUID = 1;
    }

    private class Voice {
        final int number = made++;
        int level;
        int edits;
        RuntimeException trouble;

        int colour() { note(1); return level; }
        int strength() { note(10); return 3; }
        int play() { return 0; }
        void turnBy(int by) { note(40); level += by; edits++; }
    }

    private class Tone extends Voice implements Heard {
        int play() { note(20); return 2 * colour(); }
        public int heard() { note(30); return play() + strength(); }
    }

    private class Bell extends Tone {
        int level;

        int colour() { note(2); return super.colour() + level; }
        void turnBy(int by) { note(41); level -= by; super.turnBy(by); }
    }

    private class Chime extends Bell {
        int play() { note(21); return super.play() + strength(); }
    }

    private class Noise extends Voice {
        int strength() { note(11); return 2 * super.strength(); }
        int play() { note(22); return -colour(); }
    }

    private class Wind extends Noise {
        int colour() { note(3); return super.colour() - 1; }
        int strength() { note(12); return super.strength() + 1; }
    }

    private class Drum extends Noise implements Heard {
        int skin;

        int play() { note(23); return super.play() + 7 * skin; }
        public int heard() { note(31); return strength() - play(); }
    }

    private final Object[] boxes = new Object[24];
    private final java.util.ArrayList<Integer> traced = new java.util.ArrayList<>();
    private final int[] counts = new int[8];
    private int made, latest, turns;
    private long seen;

    private void note(int body) {
        if (traced.size() < 100) traced.add(body);
    }

    private int met(int f) {
        latest = f;
        counts[f]++;
        return -10 - f;
    }

    private int find(Call call) {
        try {
            return call.run();
        } catch (NullPointerException e) {
            return met(1);
        } catch (IndexOutOfBoundsException e) {
            return met(2);
        } catch (ClassCastException e) {
            return met(3);
        } catch (ArrayStoreException e) {
            return met(4);
        } catch (NegativeArraySizeException e) {
            return met(5);
        } catch (ArithmeticException e) {
            return met(6);
        } catch (Trouble e) {
            return met(7);
        }
    }

    private static boolean noBox(int b) {
        return b < 0 || b > 23;
    }

    private static boolean noLane(int lane) {
        return lane < 0 || lane > 7;
    }

    private static Object newRow(int lane, int n) {
        switch (lane) {
            case 0: return new boolean[n];
            case 1: return new byte[n];
            case 2: return new char[n];
            case 3: return new short[n];
            case 4: return new int[n];
            case 5: return new long[n];
            case 6: return new float[n];
            default: return new double[n];
        }
    }

    private static int laneOf(Object o) {
        if (o instanceof boolean[]) return 0;
        if (o instanceof byte[]) return 1;
        if (o instanceof char[]) return 2;
        if (o instanceof short[]) return 3;
        if (o instanceof int[]) return 4;
        if (o instanceof long[]) return 5;
        if (o instanceof float[]) return 6;
        if (o instanceof double[]) return 7;
        return -1;
    }

    /** The row as one of the lane, by Java's cast. */
    private static Object asRow(Object o, int lane) {
        switch (lane) {
            case 0: return (boolean[]) o;
            case 1: return (byte[]) o;
            case 2: return (char[]) o;
            case 3: return (short[]) o;
            case 4: return (int[]) o;
            case 5: return (long[]) o;
            case 6: return (float[]) o;
            default: return (double[]) o;
        }
    }

    private static int lengthOf(Object row) {
        if (row == null) throw new NullPointerException();
        return java.lang.reflect.Array.getLength(row);
    }

    private static long wordAt(Object row, int i) {
        switch (laneOf(row)) {
            case 0: return ((boolean[]) row)[i] ? 1 : 0;
            case 1: return ((byte[]) row)[i];
            case 2: return ((char[]) row)[i];
            case 3: return ((short[]) row)[i];
            case 4: return ((int[]) row)[i];
            case 5: return ((long[]) row)[i];
            case 6: return Float.floatToRawIntBits(((float[]) row)[i]);
            default: return Double.doubleToRawLongBits(((double[]) row)[i]);
        }
    }

    private static boolean noNumber(int lane, long word) {
        if (lane == 6) return Float.isNaN(Float.intBitsToFloat((int) word));
        return lane == 7 && Double.isNaN(Double.longBitsToDouble(word));
    }

    int curve(int b, int lane, int n) {
        if (noBox(b)) return UNKNOWN;
        if (noLane(lane) || n > 16) return OUTSIDE;
        return find(() -> { boxes[b] = newRow(lane, n); return n; });
    }

    int sheet(int b, int n, int m) {
        if (noBox(b)) return UNKNOWN;
        if (n > 8 || m < 0 || m > 8) return OUTSIDE;
        return find(() -> { boxes[b] = new int[n][m]; return n; });
    }

    private Voice[] newBank(int kind, int n) {
        switch (kind) {
            case 0: return new Tone[n];
            case 1: return new Bell[n];
            case 2: return new Chime[n];
            case 3: return new Noise[n];
            case 4: return new Wind[n];
            case 5: return new Drum[n];
            default: return new Voice[n];
        }
    }

    int bank(int b, int kind, int n) {
        if (noBox(b)) return UNKNOWN;
        if (kind < 0 || kind > 6 || n > 8) return OUTSIDE;
        return find(() -> { boxes[b] = newBank(kind, n); return n; });
    }

    private Voice newVoice(int kind) {
        switch (kind) {
            case 0: return new Tone();
            case 1: return new Bell();
            case 2: return new Chime();
            case 3: return new Noise();
            case 4: return new Wind();
            default: return new Drum();
        }
    }

    int voice(int b, int kind) {
        if (noBox(b)) return UNKNOWN;
        if (kind < 0 || kind > 5) return OUTSIDE;
        if (made >= 40) return FULL;
        Voice v = newVoice(kind);
        boxes[b] = v;
        return v.number;
    }

    int share(int b, int c) {
        if (noBox(b) || noBox(c)) return UNKNOWN;
        boxes[c] = boxes[b];
        return what(c);
    }

    int clear(int b) {
        if (noBox(b)) return UNKNOWN;
        int was = what(b);
        boxes[b] = null;
        return was;
    }

    int what(int b) {
        if (noBox(b)) return UNKNOWN;
        Object o = boxes[b];
        if (o == null) return -1;
        if (laneOf(o) >= 0) return laneOf(o);
        if (o instanceof int[][]) return 8;
        for (int kind : new int[] {2, 1, 0, 5, 4, 3, 6}) {
            if (isBank(o, kind)) return 10 + kind;
            if (isVoice(o, kind)) return 20 + kind;
        }
        throw new IllegalStateException();
    }

    private static boolean isVoice(Object o, int kind) {
        switch (kind) {
            case 0: return o instanceof Tone;
            case 1: return o instanceof Bell;
            case 2: return o instanceof Chime;
            case 3: return o instanceof Noise;
            case 4: return o instanceof Wind;
            case 5: return o instanceof Drum;
            default: return o instanceof Voice;
        }
    }

    private static boolean isBank(Object o, int kind) {
        switch (kind) {
            case 0: return o instanceof Tone[];
            case 1: return o instanceof Bell[];
            case 2: return o instanceof Chime[];
            case 3: return o instanceof Noise[];
            case 4: return o instanceof Wind[];
            case 5: return o instanceof Drum[];
            default: return o instanceof Voice[];
        }
    }

    int is(int b, int q) {
        if (noBox(b)) return UNKNOWN;
        Object o = boxes[b];
        boolean yes;
        if (q >= 0 && q <= 7) yes = laneOf(o) == q;
        else if (q == 8) yes = o instanceof int[][];
        else if (q >= 10 && q <= 16) yes = isBank(o, q - 10);
        else if (q >= 20 && q <= 26) yes = isVoice(o, q - 20);
        else if (q == 30) yes = o instanceof Heard;
        else if (q == 31) yes = o instanceof Comparable;
        else if (q == 32) yes = o instanceof Heard[];
        else return OUTSIDE;
        return yes ? 1 : 0;
    }

    int width(int b, int sort) {
        if (noBox(b)) return UNKNOWN;
        if (sort < 0 || sort > 9) return OUTSIDE;
        Object o = boxes[b];
        if (sort == 8) return find(() -> ((int[][]) o).length);
        if (sort == 9) return find(() -> ((Voice[]) o).length);
        return find(() -> lengthOf(asRow(o, sort)));
    }

    int read(int b, int lane, int i) {
        if (noBox(b)) return UNKNOWN;
        if (noLane(lane)) return OUTSIDE;
        return find(() -> {
            Object row = asRow(boxes[b], lane);
            lengthOf(row);
            seen = wordAt(row, i);
            return 0;
        });
    }

    int write(int b, int lane, int i, long word) {
        if (noBox(b)) return UNKNOWN;
        if (noLane(lane) || noNumber(lane, word)) return OUTSIDE;
        Object o = boxes[b];
        return find(() -> {
            switch (lane) {
                case 0: ((boolean[]) o)[i] = (word & 1) == 1; break;
                case 1: ((byte[]) o)[i] = (byte) word; break;
                case 2: ((char[]) o)[i] = (char) word; break;
                case 3: ((short[]) o)[i] = (short) word; break;
                case 4: ((int[]) o)[i] = (int) word; break;
                case 5: ((long[]) o)[i] = word; break;
                case 6: ((float[]) o)[i] = Float.intBitsToFloat((int) word); break;
                default: ((double[]) o)[i] = Double.longBitsToDouble(word); break;
            }
            return 0;
        });
    }

    /** The lane of a row, or the finding that there is none. */
    private static int laneWanted(Object o) {
        if (o == null) throw new NullPointerException();
        int lane = laneOf(o);
        if (lane < 0) throw new ClassCastException();
        return lane;
    }

    int copy(int b, int i, int c, int j, int n) {
        if (noBox(b) || noBox(c)) return UNKNOWN;
        return find(() -> {
            int lane = laneWanted(boxes[b]);
            System.arraycopy(boxes[b], i, asRow(boxes[c], lane), j, n);
            return 0;
        });
    }

    int grow(int b, int n) {
        if (noBox(b)) return UNKNOWN;
        if (n > 16) return OUTSIDE;
        return find(() -> {
            Object row = newRowLike(boxes[b], n);
            System.arraycopy(boxes[b], 0, row, 0, Math.min(n, lengthOf(boxes[b])));
            boxes[b] = row;
            return n;
        });
    }

    private static Object newRowLike(Object o, int n) {
        return newRow(laneWanted(o), n);
    }

    int shape(int b, int i, int way, long word) {
        if (noBox(b)) return UNKNOWN;
        if (way < 0 || way > 11) return OUTSIDE;
        int lane = laneOf(boxes[b]);
        boolean has = lane >= 6 ? way != 11 : lane >= 4 && !(way >= 1 && way <= 4 || way == 7);
        if (has && way >= 5 && way <= 8 && noNumber(lane, word)) return OUTSIDE;
        return find(() -> {
            if (boxes[b] == null) throw new NullPointerException();
            if (!has) throw new ClassCastException();
            switch (lane) {
                case 4: seen = ofInt(((int[]) boxes[b])[i], (int) word, way); break;
                case 5: seen = ofLong(((long[]) boxes[b])[i], word, way); break;
                case 6: seen = ofFloat(((float[]) boxes[b])[i], Float.intBitsToFloat((int) word), way); break;
                default: seen = ofDouble(((double[]) boxes[b])[i], Double.longBitsToDouble(word), way); break;
            }
            return 0;
        });
    }

    private static long ofInt(int x, int y, int way) {
        switch (way) {
            case 0: return Math.abs(x);
            case 5: return Math.max(x, y);
            case 6: return Math.min(x, y);
            case 8: return x % y;
            case 11: return x / y;
            default: return x;
        }
    }

    private static long ofLong(long x, long y, int way) {
        switch (way) {
            case 0: return Math.abs(x);
            case 5: return Math.max(x, y);
            case 6: return Math.min(x, y);
            case 8: return x % y;
            case 10: return (int) x;
            case 11: return x / y;
            default: return x;
        }
    }

    private static long ofFloat(float x, float y, int way) {
        switch (way) {
            case 0: return bits(Math.abs(x));
            case 1: return bits((float) Math.floor(x));
            case 2: return bits((float) Math.ceil(x));
            case 3: return bits((float) Math.rint(x));
            case 4: return bits(Math.signum(x));
            case 5: return bits(Math.max(x, y));
            case 6: return bits(Math.min(x, y));
            case 7: return bits(Math.copySign(x, y));
            case 8: return bits(divides(x, y) ? x % y : 0);
            case 9: return (long) x;
            default: return (int) x;
        }
    }

    private static long ofDouble(double x, double y, int way) {
        switch (way) {
            case 0: return bits(Math.abs(x));
            case 1: return bits(Math.floor(x));
            case 2: return bits(Math.ceil(x));
            case 3: return bits(Math.rint(x));
            case 4: return bits(Math.signum(x));
            case 5: return bits(Math.max(x, y));
            case 6: return bits(Math.min(x, y));
            case 7: return bits(Math.copySign(x, y));
            case 8: return bits(divides(x, y) ? x % y : 0);
            case 9: return (long) x;
            default: return (int) x;
        }
    }

    private static boolean divides(double x, double y) {
        if (y == 0 || Double.isInfinite(x)) throw new ArithmeticException();
        return true;
    }

    private static long bits(float x) {
        return Float.floatToRawIntBits(x);
    }

    private static long bits(double x) {
        return Double.doubleToRawLongBits(x);
    }

    long seen() {
        return seen;
    }

    int line(int b, int i, int k) {
        if (noBox(b)) return UNKNOWN;
        return find(() -> { seen = ((int[][]) boxes[b])[i][k]; return 0; });
    }

    int rule(int b, int i, int k, int v) {
        if (noBox(b)) return UNKNOWN;
        return find(() -> { ((int[][]) boxes[b])[i][k] = v; return 0; });
    }

    int lay(int b, int i, int c) {
        if (noBox(b) || noBox(c)) return UNKNOWN;
        return find(() -> { ((int[][]) boxes[b])[i] = (int[]) boxes[c]; return 0; });
    }

    int set(int b, int i, int c) {
        if (noBox(b) || noBox(c)) return UNKNOWN;
        return find(() -> { ((Voice[]) boxes[b])[i] = (Voice) boxes[c]; return 0; });
    }

    private static int numberOf(Voice v) {
        return v == null ? -1 : v.number;
    }

    int get(int b, int i) {
        if (noBox(b)) return UNKNOWN;
        return find(() -> numberOf(((Voice[]) boxes[b])[i]));
    }

    int take(int b, int i, int c) {
        if (noBox(b) || noBox(c)) return UNKNOWN;
        return find(() -> {
            Voice v = ((Voice[]) boxes[b])[i];
            boxes[c] = v;
            return numberOf(v);
        });
    }

    int level(int b, int as) {
        if (noBox(b)) return UNKNOWN;
        if (as < 0 || as > 2) return OUTSIDE;
        Object o = boxes[b];
        return find(() -> {
            seen = as == 0 ? ((Voice) o).level : as == 1 ? ((Bell) o).level : ((Drum) o).skin;
            return 0;
        });
    }

    int raise(int b, int as, int v) {
        if (noBox(b)) return UNKNOWN;
        if (as < 0 || as > 2) return OUTSIDE;
        Object o = boxes[b];
        return find(() -> {
            if (as == 0) ((Voice) o).level = v;
            else if (as == 1) ((Bell) o).level = v;
            else ((Drum) o).skin = v;
            return 0;
        });
    }

    int ask(int b, int what) {
        traced.clear();
        if (noBox(b)) return UNKNOWN;
        if (what < 0 || what > 5) return OUTSIDE;
        Object o = boxes[b];
        return find(() -> {
            switch (what) {
                case 0: seen = ((Voice) o).colour(); break;
                case 1: seen = ((Voice) o).strength(); break;
                case 2: seen = ((Voice) o).play(); break;
                case 3: seen = ((Heard) o).heard(); break;
                case 4: seen = ((Voice) o).edits; break;
                default: seen = ((Voice) o).number; break;
            }
            return 0;
        });
    }

    int turn(int b, int by) {
        traced.clear();
        if (noBox(b)) return UNKNOWN;
        return find(() -> {
            Voice v = (Voice) boxes[b];
            v.turnBy(by);
            turns++;
            seen = v.level;
            return 0;
        });
    }

    int arm(int b, boolean on) {
        if (noBox(b)) return UNKNOWN;
        return find(() -> { ((Voice) boxes[b]).trouble = on ? new Trouble() : null; return 0; });
    }

    int fail(int b) {
        if (noBox(b)) return UNKNOWN;
        return find(() -> { throw ((Voice) boxes[b]).trouble; });
    }

    int trace(int k) {
        return k >= 0 && k < traced.size() ? traced.get(k) : -1;
    }

    int finding() {
        return latest;
    }

    int findings(int f) {
        return f >= 1 && f <= 7 ? counts[f] : OUTSIDE;
    }

    int about(int what) {
        switch (what) {
            case 0: return made;
            case 1: return traced.size();
            case 2: return (int) java.util.Arrays.stream(boxes).filter(o -> o != null).count();
            case 3: return turns;
            default: return OUTSIDE;
        }
    }

    long digest() {
        java.util.ArrayList<Long> all = new java.util.ArrayList<>();
        for (int b = 0; b < 24; b++) {
            all.add((long) what(b));
            tell(boxes[b], all);
        }
        long h = 17;
        for (long number : all) h = 31 * h + number;
        return h;
    }

    private static void tell(Object o, java.util.ArrayList<Long> all) {
        if (laneOf(o) >= 0) {
            all.add((long) lengthOf(o));
            for (int i = 0; i < lengthOf(o); i++) all.add(wordAt(o, i));
        } else if (o instanceof int[][]) {
            all.add((long) lengthOf(o));
            for (int[] row : (int[][]) o) {
                if (row == null) all.add(-1L);
                else tell(row, all);
            }
        } else if (o instanceof Voice[]) {
            all.add((long) lengthOf(o));
            for (Voice v : (Voice[]) o) all.add((long) numberOf(v));
        } else if (o instanceof Voice) {
            Voice v = (Voice) o;
            long own = o instanceof Bell ? ((Bell) o).level : 0;
            long skin = o instanceof Drum ? ((Drum) o).skin : 0;
            long trouble = v.trouble != null ? 1 : 0;
            for (long number : new long[] {v.number, v.level, own, skin, v.edits, trouble}) all.add(number);
        }
    }
}
