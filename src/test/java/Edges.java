import java.io.IOException;
import java.nio.file.Files;
import java.nio.file.Path;
import java.util.Arrays;

/**
 * Tests of the document's edges, sentence by sentence: part() opens a part of ../shared/DOC.md, says() quotes the
 * words that the next lines test. A quote that does not stand in the part, and a word of the part that nothing
 * quotes, count as wrong answers: so no sentence is left without its test when the document changes.
 */
final class Edges {
    static final int NONE = -1, UNKNOWN = -101, OUTSIDE = -102, FULL = -104;
    static final int NULL = -11, INDEX = -12, CAST = -13, STORE = -14, SIZE = -15, ZERO = -16, TROUBLE = -17;
    static final int LEAST = Integer.MIN_VALUE, MOST = Integer.MAX_VALUE;

    /** Where what a call may change is told: by digest(), seen(), the trace, about(0), about(2), about(3). */
    static final int NOTHING = 0, BOXES = 1, SEEN = 2, TRACE = 4, VOICES = 8, HELD = 16, TURNS = 32;

    private static final int[] NO_BOX = {-1, 24, 25, LEAST, MOST};

    // of full(): what stands in which box, behind the curves of lanes 0 to 7 in boxes 0 to 7
    static final int SHEET = 8, BELLS = 9, TONE = 10, BELL = 11, CHIME = 12, NOISE = 13, WIND = 14, DRUM = 15;
    static final int NO_PLACES = 16, NO_INTS = 17, NO_LINES = 18, FREE = 19;

    interface Call {
        long on(PatchAsks x);
    }

    interface CallWith {
        long on(PatchAsks x, int v);
    }

    private final Due due;
    private final String document;
    private String title = "";
    private String text = "";
    private boolean[] quoted = {};
    private String quote = "";

    Edges(String test) throws IOException {
        due = new Due(test);
        document = Files.readString(Path.of("../shared/DOC.md"));
    }

    /** A rack with something of every sort, with a trace of 7, something SEEN, a turn done and a finding met. */
    static PatchAsks full() {
        PatchAsks x = new PatchAsks();
        for (int lane = 0; lane <= 7; lane++) {
            x.curve(lane, lane, 3);
            for (int i = 0; i < 3; i++) x.write(lane, lane, i, wordIn(lane, i));
        }
        x.sheet(SHEET, 3, 3);
        x.rule(SHEET, 0, 0, 11);
        x.rule(SHEET, 2, 2, 22);
        x.lay(SHEET, 1, FREE);
        for (int kind = 0; kind <= 5; kind++) {
            x.voice(TONE + kind, kind);
            x.raise(TONE + kind, 0, 100 + kind);
        }
        x.raise(BELL, 1, 201);
        x.raise(CHIME, 1, 202);
        x.raise(DRUM, 2, 305);
        x.arm(BELL, true);
        x.bank(BELLS, 1, 3);
        x.set(BELLS, 0, BELL);
        x.set(BELLS, 2, CHIME);
        x.bank(NO_PLACES, 6, 0);
        x.curve(NO_INTS, 4, 0);
        x.sheet(NO_LINES, 0, 3);
        x.turn(WIND, 1);
        x.fail(CHIME);
        x.ask(CHIME, 3);
        return x;
    }

    /** The word of number i of full()'s curve of a lane. */
    static long wordIn(int lane, int i) {
        if (lane == 0) return i == 1 ? 0 : 1;
        double[] numbers = {2.5, -7.5, 0.5};
        if (lane == 6) return Float.floatToRawIntBits((float) numbers[i]);
        return lane == 7 ? Double.doubleToRawLongBits(numbers[i]) : 50 + 10 * lane + i;
    }

    /** Opens the part of the document whose heading begins so. */
    void part(String heading) {
        endPart();
        title = heading;
        int from = document.indexOf("\n" + heading);
        due.is("the document has " + heading, from < 0 ? 0 : 1, 1);
        int start = document.indexOf('\n', Math.max(0, from + 1));
        int end = document.indexOf("\n## ", start);
        open(document.substring(start, end < 0 ? document.length() : end));
    }

    /** Opens the part between two texts of the document. */
    void part(String name, String first, String behind) {
        endPart();
        title = name;
        int from = document.indexOf(first);
        int to = document.indexOf(behind, Math.max(0, from));
        due.is("the document has " + name, from >= 0 && to >= 0 ? 1 : 0, 1);
        open(from >= 0 && to >= 0 ? document.substring(from, to) : "");
    }

    void promise(int n) {
        part("## Promise " + n + ":");
    }

    private void open(String words) {
        text = words.replaceAll("```\\w*", "").replaceAll("\\s+", " ");
        quoted = new boolean[text.length()];
        int behindFace = text.startsWith(" `") ? text.indexOf("`: ") : -1;
        for (int i = 0; i < behindFace; i++) quoted[i] = true;
        quote = "";
    }

    private void endPart() {
        StringBuilder left = new StringBuilder();
        for (int i = 0; i < text.length(); i++) {
            boolean word = Character.isLetterOrDigit(text.charAt(i));
            if (word && !quoted[i]) left.append(text.charAt(i));
            else if (left.length() > 0 && left.charAt(left.length() - 1) != ' ') left.append(' ');
        }
        quote = "";
        due.is(title + ": letters that no test quotes (" + left.toString().trim() + ")", left.toString().trim().length(), 0);
        text = "";
    }

    /** What the next lines test, in the document's own words. */
    void says(String words) {
        quote = words;
        int at = text.indexOf(words);
        while (at >= 0 && quoted[at + words.length() / 2]) {
            int next = text.indexOf(words, at + 1);
            if (next < 0) break;
            at = next;
        }
        due.is(title + " says '" + words + "'", at < 0 ? 0 : 1, 1);
        if (at >= 0) Arrays.fill(quoted, at, at + words.length(), true);
    }

    void is(String call, long got, long want) {
        due.is(title + " '" + quote + "': " + call, got, want);
    }

    /** The number that seen() tells behind a call that answers 0. */
    void sees(PatchAsks x, String call, long answer, long want) {
        is(call, answer, 0);
        is(call + ", seen()", x.seen(), want);
    }

    /** On full(): the call is refused or has a finding, and changes nothing else. */
    void refused(String call, int want, Call made) {
        left(call, want, NOTHING, made);
    }

    void refused(String call, int want, CallWith made, int... values) {
        for (int v : values) refused(call + ", v = " + v, want, x -> made.on(x, v));
    }

    /** On full(): there is no such box, whatever else is wrong with the call. */
    void unknown(String call, CallWith made) {
        refused(call, UNKNOWN, made, NO_BOX);
    }

    /** As refused(), of ask() and turn(): the trace is empty then. */
    void refusedEmptied(String call, int want, CallWith made, int... values) {
        for (int v : values) {
            PatchAsks x = full();
            is(call + ", v = " + v + ": the trace ahead of it", x.about(1), 7);
            left(call + ", v = " + v, want, TRACE, y -> made.on(y, v));
            made.on(x, v);
            is(call + ", v = " + v + ": numbers in the trace", x.about(1), 0);
            is(call + ", v = " + v + ": trace(0)", x.trace(0), NONE);
        }
    }

    void unknownEmptied(String call, CallWith made) {
        refusedEmptied(call, UNKNOWN, made, NO_BOX);
    }

    /** On full(): the call answers so and changes nothing but what is told; a finding is counted, once. */
    void left(String call, long want, int mayChange, Call made) {
        PatchAsks x = full();
        long[] ahead = told(x);
        int[] found = findingsOf(x);
        is(call, made.on(x), want);
        long[] behind = told(x);
        for (int k = 0; k < ahead.length; k++) {
            if ((mayChange & 1 << k) == 0) is(call + ": what it leaves alone (" + k + ")", behind[k], ahead[k]);
        }
        boolean finding = want <= NULL && want >= TROUBLE;
        if (finding) {
            found[0] = (int) (-10 - want);
            found[found[0]]++;
        }
        int[] then = findingsOf(x);
        for (int f = 0; f <= 7; f++) is(call + ": finding " + f, then[f], found[f]);
    }

    private static long[] told(PatchAsks x) {
        long trace = x.about(1);
        for (int k = 0; k <= 7; k++) trace = 100 * trace + x.trace(k);
        return new long[] {x.digest(), x.seen(), trace, x.about(0), x.about(2), x.about(3)};
    }

    /** The latest one, then how often each was answered. */
    private static int[] findingsOf(PatchAsks x) {
        int[] all = new int[8];
        all[0] = x.finding();
        for (int f = 1; f <= 7; f++) all[f] = x.findings(f);
        return all;
    }

    void end() {
        endPart();
        due.end();
    }
}
