/** Promises 29 to 33: what is told. */
public final class ToldTest {
    private static final Due DUE = new Due("ToldTest");
    private static final int OUTSIDE = -102;

    public static void main(String[] args) {
        traces();
        findings();
        eachFinding();
        abouts();
        digestOfNothing();
        digestOfEachThing();
        digestStays();
        DUE.end();
    }

    private static void traces() {
        PatchAsks x = new PatchAsks();
        for (int k : new int[] {0, -1, 99, 100, Integer.MIN_VALUE, Integer.MAX_VALUE}) DUE.is("no trace", x.trace(k), -1);
        x.voice(0, 1);
        x.ask(0, 0);
        DUE.is("trace 0", x.trace(0), 2);
        DUE.is("trace 1", x.trace(1), 1);
        for (int k : new int[] {2, -1, 99, 100, Integer.MIN_VALUE, Integer.MAX_VALUE}) DUE.is("no more", x.trace(k), -1);
        x.ask(0, 4);
        DUE.is("emptied", x.trace(0), -1);
        x.turn(0, 1);
        DUE.is("of a turn", x.trace(0), 41);
        x.raise(0, 0, 1);
        x.read(5, 0, 0);
        DUE.is("other calls leave it", x.trace(1), 40);
    }

    private static void findings() {
        PatchAsks x = new PatchAsks();
        DUE.is("none at first", x.finding(), 0);
        x.curve(24, 0, 0);
        x.curve(0, 8, 0);
        DUE.is("refusals are none", x.finding(), 0);
        x.curve(0, 0, -1);
        DUE.is("SIZE", x.finding(), 5);
        x.width(0, 0);
        DUE.is("NULL", x.finding(), 1);
        x.curve(0, 0, 1);
        x.curve(24, 0, -1);
        DUE.is("the latest stays", x.finding(), 1);
        for (int f : new int[] {0, -1, 8, Integer.MIN_VALUE, Integer.MAX_VALUE}) DUE.is("findings " + f, x.findings(f), OUTSIDE);
    }

    private static void eachFinding() {
        PatchAsks x = new PatchAsks();
        x.curve(0, 4, 1);
        x.voice(1, 0);
        x.bank(2, 3, 1);
        x.arm(1, true);
        for (int times = 1; times <= 3; times++) {
            DUE.is("1", x.read(9, 4, 0), -11);
            DUE.is("2", x.read(0, 4, 1), -12);
            DUE.is("3", x.read(1, 4, 0), -13);
            DUE.is("4", x.set(2, 0, 1), -14);
            DUE.is("5", x.grow(0, -1), -15);
            DUE.is("6", x.shape(0, 0, 11, 0), -16);
            DUE.is("7", x.fail(1), -17);
            DUE.is("the latest", x.finding(), 7);
            for (int f = 1; f <= 7; f++) DUE.is("how often " + f, x.findings(f), times);
        }
        x.line(0, 0, 0);
        DUE.is("CAST once more", x.findings(3), 4);
        DUE.is("NULL not", x.findings(1), 3);
        DUE.is("the latest is CAST", x.finding(), 3);
    }

    private static void abouts() {
        PatchAsks x = new PatchAsks();
        x.voice(0, 5);
        x.voice(0, 2);
        x.share(0, 3);
        x.sheet(23, 1, 1);
        x.ask(0, 3);
        DUE.is("VOICES made", x.about(0), 2);
        DUE.is("in THE TRACE", x.about(1), 7);
        DUE.is("BOXES that hold", x.about(2), 3);
        DUE.is("TURNS", x.about(3), 0);
        x.turn(0, 1);
        x.turn(3, 1);
        x.turn(23, 1);
        x.turn(5, 1);
        x.clear(0);
        DUE.is("TURNS done", x.about(3), 2);
        DUE.is("trace emptied", x.about(1), 0);
        DUE.is("BOXES then", x.about(2), 2);
        DUE.is("VOICES stay made", x.about(0), 2);
        for (int what : new int[] {-1, 4, Integer.MIN_VALUE, Integer.MAX_VALUE}) DUE.is("about " + what, x.about(what), OUTSIDE);
    }

    private static long digestOf(long... numbers) {
        long h = 17;
        for (long number : numbers) h = 31 * h + number;
        return h;
    }

    /** The numbers of box 0, then -1 for each of the other 23. */
    private static long digestOfFirst(long... first) {
        long[] all = java.util.Arrays.copyOf(first, first.length + 23);
        java.util.Arrays.fill(all, first.length, all.length, -1);
        return digestOf(all);
    }

    private static void digestOfNothing() {
        DUE.is("digest of a new one", new PatchAsks().digest(), digestOfFirst(-1));
    }

    private static void digestOfEachThing() {
        PatchAsks x = new PatchAsks();
        x.curve(0, 2, 3);
        x.write(0, 2, 1, -1);
        DUE.is("chars", x.digest(), digestOfFirst(2, 3, 0, 65535, 0));
        x.curve(0, 0, 2);
        x.write(0, 0, 1, 7);
        DUE.is("truths", x.digest(), digestOfFirst(0, 2, 0, 1));
        x.curve(0, 6, 1);
        x.write(0, 6, 0, 0x80000000L);
        DUE.is("floats", x.digest(), digestOfFirst(6, 1, Integer.MIN_VALUE));
        x.curve(0, 7, 1);
        x.write(0, 7, 0, 0x4000000000000000L);
        DUE.is("doubles", x.digest(), digestOfFirst(7, 1, 0x4000000000000000L));
        x.sheet(0, 3, 2);
        x.rule(0, 2, 1, -9);
        x.lay(0, 1, 5);
        DUE.is("a sheet", x.digest(), digestOfFirst(8, 3, 2, 0, 0, -1, 2, 0, -9));
        x.voice(1, 0);
        x.voice(1, 1);
        x.bank(0, 0, 3);
        x.set(0, 1, 1);
        x.clear(1);
        DUE.is("a bank", x.digest(), digestOfFirst(10, 3, -1, 1, -1));
        x.take(0, 1, 0);
        x.raise(0, 0, 5);
        x.raise(0, 1, 7);
        x.turn(0, 2);
        DUE.is("a BELL", x.digest(), digestOfFirst(21, 1, 7, 5, 0, 1, 0));
        x.voice(0, 5);
        x.raise(0, 0, -5);
        x.raise(0, 2, -7);
        x.arm(0, true);
        DUE.is("a DRUM", x.digest(), digestOfFirst(25, 2, -5, 0, -7, 0, 1));
        x.share(0, 23);
        x.clear(0);
        long[] last = new long[30];
        java.util.Arrays.fill(last, -1);
        System.arraycopy(new long[] {25, 2, -5, 0, -7, 0, 1}, 0, last, 23, 7);
        DUE.is("in the last box", x.digest(), digestOf(last));
    }

    private static void digestStays() {
        PatchAsks x = new PatchAsks();
        x.voice(0, 1);
        x.curve(1, 4, 2);
        long h = x.digest();
        x.ask(0, 0);
        x.write(1, 4, 2, 5);
        x.grow(1, -1);
        x.curve(1, 4, 17);
        x.curve(1, 4, -1);
        x.voice(1, 6);
        x.raise(0, 2, 9);
        x.turn(1, 1);
        x.take(1, 0, 0);
        x.copy(0, 0, 1, 0, 1);
        x.arm(1, true);
        DUE.is("what is refused or found changes nothing", x.digest(), h);
    }
}
