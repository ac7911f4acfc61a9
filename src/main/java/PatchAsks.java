/** A rack of 24 boxes that hold curves, sheets, banks and voices; ../shared/DOC.md says what each call answers. */
public final class PatchAsks {
    public static final int NONE = -1, UNKNOWN = -101, OUTSIDE = -102, FULL = -104;

    private static final int BOXES = 24, MOST_NUMBERS = 16, MOST_PLACES = 8, MOST_VOICES = 40, MOST_TRACED = 100;

    private static final int TRUTH = 0, BYTE = 1, CHAR = 2, SHORT = 3, INT = 4, LONG = 5, FLOAT = 6, DOUBLE = 7;

    private static final int TONE = 0, BELL = 1, CHIME = 2, NOISE = 3, WIND = 4, DRUM = 5, ANY_VOICE = 6;

    private static final int SHEET_CODE = 8, BANK_SORT = 9, BANK_CODE = 10, VOICE_CODE = 20;
    private static final int HEARD_VOICE = 30, COMPARED = 31, HEARD_BANK = 32;

    private static final int NULL = 1, INDEX = 2, CAST = 3, STORE = 4, SIZE = 5, ZERO = 6, TROUBLE = 7;

    private static final int WAY_SIZE = 0, WAY_FLOOR = 1, WAY_CEILING = 2, WAY_NEAREST = 3, WAY_SIGN = 4,
            WAY_GREATER = 5, WAY_LESSER = 6, WAY_SIGN_OF = 7, WAY_LEFT = 8, WAY_LONG = 9, WAY_INT = 10, WAY_BY = 11;

    private static final int AS_LEVEL = 0, AS_OWN_LEVEL = 1, AS_SKIN = 2;

    private static final int ASK_COLOUR = 0, ASK_STRENGTH = 1, ASK_PLAY = 2, ASK_HEARD = 3, ASK_EDITS = 4,
            ASK_NUMBER = 5;

    // written out, as LANGUAGE.md's list of the library has no constants of Integer and Long
    private static final int LEAST_INT = 0x80000000, GREATEST_INT = 0x7fffffff;
    private static final long LEAST_LONG = 0x8000000000000000L, GREATEST_LONG = 0x7fffffffffffffffL;

    private final Thing[] boxes;
    private final int[] traced;
    private final int[] timesFound;
    private final FloatForm floats;
    private final FloatForm doubles;
    private int tracedCount;
    private int latestFound;
    private int voicesMade;
    private int turnsDone;
    private long lastSeen;

    public PatchAsks() {
        boxes = new Thing[BOXES];
        traced = new int[MOST_TRACED];
        timesFound = new int[TROUBLE + 1];
        floats = new FloatForm(23, 127, LEAST_INT);
        doubles = new FloatForm(52, 1023, LEAST_LONG);
    }

    // ---- things

    public int curve(int b, int lane, int n) {
        if (!isBox(b)) return UNKNOWN;
        if (!isLane(lane) || n > MOST_NUMBERS) return OUTSIDE;
        if (n < 0) return found(SIZE);
        boxes[b] = new Curve(lane, new long[n]);
        return n;
    }

    public int sheet(int b, int n, int m) {
        if (!isBox(b)) return UNKNOWN;
        if (n > MOST_PLACES || m < 0 || m > MOST_PLACES) return OUTSIDE;
        if (n < 0) return found(SIZE);
        Curve[] lines = new Curve[n];
        for (int i = 0; i < lines.length; i++) lines[i] = new Curve(INT, new long[m]);
        boxes[b] = new Sheet(lines);
        return n;
    }

    public int bank(int b, int kind, int n) {
        if (!isBox(b)) return UNKNOWN;
        if (kind < TONE || kind > ANY_VOICE || n > MOST_PLACES) return OUTSIDE;
        if (n < 0) return found(SIZE);
        boxes[b] = new Bank(kind, new Voice[n]);
        return n;
    }

    public int voice(int b, int kind) {
        if (!isBox(b)) return UNKNOWN;
        if (kind < TONE || kind > DRUM) return OUTSIDE;
        if (voicesMade >= MOST_VOICES) return FULL;
        int number = voicesMade;
        boxes[b] = new Voice(kind, number);
        voicesMade++;
        return number;
    }

    public int share(int b, int c) {
        if (!isBox(b) || !isBox(c)) return UNKNOWN;
        boxes[c] = boxes[b];
        return codeIn(c);
    }

    public int clear(int b) {
        if (!isBox(b)) return UNKNOWN;
        int code = codeIn(b);
        boxes[b] = null;
        return code;
    }

    public int what(int b) {
        if (!isBox(b)) return UNKNOWN;
        return codeIn(b);
    }

    public int is(int b, int q) {
        if (!isBox(b)) return UNKNOWN;
        if (!isQuestion(q)) return OUTSIDE;
        return holds(thingIn(b), q) ? 1 : 0;
    }

    public int width(int b, int sort) {
        if (!isBox(b)) return UNKNOWN;
        if (sort < TRUTH || sort > BANK_SORT) return OUTSIDE;
        int n = countOf(thingIn(b), sort);
        return n == NONE ? notSuch(b) : n;
    }

    // ---- curves

    public int read(int b, int lane, int i) {
        if (!isBox(b)) return UNKNOWN;
        if (!isLane(lane)) return OUTSIDE;
        Curve curve = curveOf(thingIn(b), lane);
        if (curve == null) return notSuch(b);
        if (!curve.has(i)) return found(INDEX);
        lastSeen = curve.words[i];
        return 0;
    }

    public int write(int b, int lane, int i, long word) {
        if (!isBox(b)) return UNKNOWN;
        if (!isLane(lane) || !tellsNumber(lane, word)) return OUTSIDE;
        Curve curve = curveOf(thingIn(b), lane);
        if (curve == null) return notSuch(b);
        if (!curve.has(i)) return found(INDEX);
        curve.words[i] = told(lane, word);
        return 0;
    }

    public int copy(int b, int i, int c, int j, int n) {
        if (!isBox(b) || !isBox(c)) return UNKNOWN;
        Curve from = anyCurveOf(thingIn(b));
        if (from == null) return notSuch(b);
        Curve to = curveOf(thingIn(c), from.lane);
        if (to == null) return notSuch(c);
        if (!from.hasPart(i, n) || !to.hasPart(j, n)) return found(INDEX);
        System.arraycopy(from.words, i, to.words, j, n);
        return 0;
    }

    public int grow(int b, int n) {
        if (!isBox(b)) return UNKNOWN;
        if (n > MOST_NUMBERS) return OUTSIDE;
        Curve old = anyCurveOf(thingIn(b));
        if (old == null) return notSuch(b);
        if (n < 0) return found(SIZE);
        long[] words = new long[n];
        System.arraycopy(old.words, 0, words, 0, Math.min(n, old.words.length));
        boxes[b] = new Curve(old.lane, words);
        return n;
    }

    public int shape(int b, int i, int way, long word) {
        if (!isBox(b)) return UNKNOWN;
        if (way < WAY_SIZE || way > WAY_BY) return OUTSIDE;
        Curve curve = anyCurveOf(thingIn(b));
        if (curve == null || !hasWay(curve.lane, way)) return notSuch(b);
        boolean looksAtWord = way >= WAY_GREATER && way <= WAY_LEFT;
        if (looksAtWord && !tellsNumber(curve.lane, word)) return OUTSIDE;
        if (!curve.has(i)) return found(INDEX);
        long x = curve.words[i];
        long y = told(curve.lane, word);
        if (cannotDivide(curve.lane, way, x, y)) return found(ZERO);
        lastSeen = curve.lane >= FLOAT ? shapedFloating(formOf(curve.lane), way, x, y)
                : shapedWhole(curve.lane, way, x, y);
        return 0;
    }

    public long seen() {
        return lastSeen;
    }

    // ---- sheets, banks

    public int line(int b, int i, int k) {
        if (!isBox(b)) return UNKNOWN;
        Curve row = lineAt(b, i);
        if (row == null) return noLine(b, i);
        if (!row.has(k)) return found(INDEX);
        lastSeen = row.words[k];
        return 0;
    }

    public int rule(int b, int i, int k, int v) {
        if (!isBox(b)) return UNKNOWN;
        Curve row = lineAt(b, i);
        if (row == null) return noLine(b, i);
        if (!row.has(k)) return found(INDEX);
        row.words[k] = v;
        return 0;
    }

    public int lay(int b, int i, int c) {
        if (!isBox(b) || !isBox(c)) return UNKNOWN;
        Sheet sheet = sheetOf(thingIn(b));
        Curve row = curveOf(thingIn(c), INT);
        if (isOther(thingIn(b), sheet) || isOther(thingIn(c), row)) return found(CAST);
        if (sheet == null) return found(NULL);
        if (!sheet.has(i)) return found(INDEX);
        sheet.lines[i] = row;
        return 0;
    }

    public int set(int b, int i, int c) {
        if (!isBox(b) || !isBox(c)) return UNKNOWN;
        Bank bank = bankOf(thingIn(b));
        Voice voice = voiceOf(thingIn(c));
        if (isOther(thingIn(b), bank) || isOther(thingIn(c), voice)) return found(CAST);
        if (bank == null) return found(NULL);
        if (!bank.has(i)) return found(INDEX);
        if (voice != null && !isOfKind(voice.kind, bank.kind)) return found(STORE);
        bank.places[i] = voice;
        return 0;
    }

    public int get(int b, int i) {
        if (!isBox(b)) return UNKNOWN;
        Bank bank = bankOf(thingIn(b));
        if (bank == null) return notSuch(b);
        if (!bank.has(i)) return found(INDEX);
        return numberOf(bank.places[i]);
    }

    public int take(int b, int i, int c) {
        if (!isBox(b) || !isBox(c)) return UNKNOWN;
        Bank bank = bankOf(thingIn(b));
        if (bank == null) return notSuch(b);
        if (!bank.has(i)) return found(INDEX);
        Voice taken = bank.places[i];
        boxes[c] = taken;
        return numberOf(taken);
    }

    // ---- voices

    public int level(int b, int as) {
        if (!isBox(b)) return UNKNOWN;
        if (as < AS_LEVEL || as > AS_SKIN) return OUTSIDE;
        Voice voice = voiceOf(thingIn(b));
        if (voice == null || !hasLevel(voice.kind, as)) return notSuch(b);
        switch (as) {
            case AS_OWN_LEVEL: lastSeen = voice.ownLevel; break;
            case AS_SKIN: lastSeen = voice.skin; break;
            default: lastSeen = voice.level; break;
        }
        return 0;
    }

    public int raise(int b, int as, int v) {
        if (!isBox(b)) return UNKNOWN;
        if (as < AS_LEVEL || as > AS_SKIN) return OUTSIDE;
        Voice voice = voiceOf(thingIn(b));
        if (voice == null || !hasLevel(voice.kind, as)) return notSuch(b);
        switch (as) {
            case AS_OWN_LEVEL: voice.ownLevel = v; break;
            case AS_SKIN: voice.skin = v; break;
            default: voice.level = v; break;
        }
        return 0;
    }

    public int ask(int b, int what) {
        tracedCount = 0;
        if (!isBox(b)) return UNKNOWN;
        if (what < ASK_COLOUR || what > ASK_NUMBER) return OUTSIDE;
        Voice voice = voiceOf(thingIn(b));
        if (voice == null || what == ASK_HEARD && !isHeard(voice.kind)) return notSuch(b);
        switch (what) {
            case ASK_COLOUR: lastSeen = colourOf(voice); break;
            case ASK_STRENGTH: lastSeen = strengthOf(voice); break;
            case ASK_PLAY: lastSeen = playOf(voice); break;
            case ASK_HEARD: lastSeen = heardOf(voice); break;
            case ASK_EDITS: lastSeen = voice.edits; break;
            default: lastSeen = voice.number; break;
        }
        return 0;
    }

    public int turn(int b, int by) {
        tracedCount = 0;
        if (!isBox(b)) return UNKNOWN;
        Voice voice = voiceOf(thingIn(b));
        if (voice == null) return notSuch(b);
        turnVoice(voice, by);
        turnsDone++;
        lastSeen = voice.level;
        return 0;
    }

    public int arm(int b, boolean on) {
        if (!isBox(b)) return UNKNOWN;
        Voice voice = voiceOf(thingIn(b));
        if (voice == null) return notSuch(b);
        voice.troubled = on;
        return 0;
    }

    public int fail(int b) {
        if (!isBox(b)) return UNKNOWN;
        Voice voice = voiceOf(thingIn(b));
        if (voice == null) return notSuch(b);
        return found(voice.troubled ? TROUBLE : NULL);
    }

    // ---- what is told

    public int trace(int k) {
        return k >= 0 && k < tracedCount && k < traced.length ? traced[k] : NONE;
    }

    public int finding() {
        return latestFound;
    }

    public int findings(int f) {
        return f >= NULL && f < timesFound.length ? timesFound[f] : OUTSIDE;
    }

    public int about(int what) {
        switch (what) {
            case 0: return voicesMade;
            case 1: return tracedCount;
            case 2: return boxesInUse();
            case 3: return turnsDone;
            default: return OUTSIDE;
        }
    }

    public long digest() {
        long h = 17;
        for (int b = 0; b < boxes.length; b++) {
            h = joined(h, codeIn(b));
            Thing thing = thingIn(b);
            if (thing != null) h = thing.joinedTo(h);
        }
        return h;
    }

    // ---- boxes and findings

    private static boolean isBox(int b) {
        return b >= 0 && b < BOXES;
    }

    private Thing thingIn(int b) {
        return b >= 0 && b < boxes.length ? boxes[b] : null;
    }

    private int codeIn(int b) {
        Thing thing = thingIn(b);
        return thing == null ? NONE : thing.code();
    }

    private int boxesInUse() {
        int used = 0;
        for (int b = 0; b < boxes.length; b++) {
            if (boxes[b] != null) used++;
        }
        return used;
    }

    private int found(int f) {
        latestFound = f;
        if (f >= NULL && f < timesFound.length) timesFound[f]++;
        return -10 - f;
    }

    /** The finding about a box that does not hold what a call wants there. */
    private int notSuch(int b) {
        return found(thingIn(b) == null ? NULL : CAST);
    }

    /** Whether something is there, but was not of the sort that was looked for (which is null then). */
    private static boolean isOther(Thing held, Thing asSort) {
        return held != null && asSort == null;
    }

    private static long joined(long h, long number) {
        return 31 * h + number;
    }

    // ---- sorts of things

    private static Curve anyCurveOf(Thing thing) {
        return thing instanceof Curve ? (Curve) thing : null;
    }

    private static Curve curveOf(Thing thing, int lane) {
        Curve curve = anyCurveOf(thing);
        return curve != null && curve.lane == lane ? curve : null;
    }

    private static Sheet sheetOf(Thing thing) {
        return thing instanceof Sheet ? (Sheet) thing : null;
    }

    private static Bank bankOf(Thing thing) {
        return thing instanceof Bank ? (Bank) thing : null;
    }

    private static Voice voiceOf(Thing thing) {
        return thing instanceof Voice ? (Voice) thing : null;
    }

    private static int countOf(Thing thing, int sort) {
        if (sort == BANK_SORT) {
            Bank bank = bankOf(thing);
            return bank == null ? NONE : bank.places.length;
        }
        if (sort == SHEET_CODE) {
            Sheet sheet = sheetOf(thing);
            return sheet == null ? NONE : sheet.lines.length;
        }
        Curve curve = curveOf(thing, sort);
        return curve == null ? NONE : curve.words.length;
    }

    private static boolean isQuestion(int q) {
        if (q >= BANK_CODE && q <= BANK_CODE + ANY_VOICE) return true;
        if (q >= VOICE_CODE && q <= VOICE_CODE + ANY_VOICE) return true;
        return q >= TRUTH && q <= SHEET_CODE || q >= HEARD_VOICE && q <= HEARD_BANK;
    }

    private static boolean holds(Thing thing, int q) {
        if (q == COMPARED) return false;
        if (q <= SHEET_CODE) return thing != null && thing.code() == q;
        if (q == HEARD_BANK || q < VOICE_CODE) {
            Bank bank = bankOf(thing);
            return bank != null && (q == HEARD_BANK ? isHeard(bank.kind) : isOfKind(bank.kind, q - BANK_CODE));
        }
        Voice voice = voiceOf(thing);
        return voice != null && (q == HEARD_VOICE ? isHeard(voice.kind) : isOfKind(voice.kind, q - VOICE_CODE));
    }

    private static boolean isOfKind(int kind, int asked) {
        switch (asked) {
            case TONE: return kind == TONE || kind == BELL || kind == CHIME;
            case BELL: return kind == BELL || kind == CHIME;
            case NOISE: return kind == NOISE || kind == WIND || kind == DRUM;
            case ANY_VOICE: return true;
            default: return kind == asked;
        }
    }

    private static boolean isHeard(int kind) {
        return kind == DRUM || isOfKind(kind, TONE);
    }

    private static int numberOf(Voice voice) {
        return voice == null ? NONE : voice.number;
    }

    // ---- lines of sheets

    private Curve lineAt(int b, int i) {
        Sheet sheet = sheetOf(thingIn(b));
        return sheet != null && sheet.has(i) ? sheet.lines[i] : null;
    }

    /** The finding about a line that is not there. */
    private int noLine(int b, int i) {
        Sheet sheet = sheetOf(thingIn(b));
        if (sheet == null) return notSuch(b);
        return found(sheet.has(i) ? NULL : INDEX);
    }

    // ---- numbers and words

    private static boolean isLane(int lane) {
        return lane >= TRUTH && lane <= DOUBLE;
    }

    private FloatForm formOf(int lane) {
        return lane == FLOAT ? floats : doubles;
    }

    /** The word of the number that a word tells in a lane. */
    private static long told(int lane, long word) {
        switch (lane) {
            case TRUTH: return word & 1;
            case BYTE: return (byte) word;
            case CHAR: return (char) word;
            case SHORT: return (short) word;
            case INT:
            case FLOAT: return (int) word;
            default: return word;
        }
    }

    private boolean tellsNumber(int lane, long word) {
        return lane < FLOAT || formOf(lane).isNumber(told(lane, word));
    }

    private static boolean hasWay(int lane, int way) {
        if (lane < INT) return false;
        if (way == WAY_BY) return lane < FLOAT;
        boolean floatingAlone = way >= WAY_FLOOR && way <= WAY_SIGN || way == WAY_SIGN_OF;
        return lane >= FLOAT || !floatingAlone;
    }

    private boolean cannotDivide(int lane, int way, long x, long y) {
        if (way != WAY_LEFT && way != WAY_BY) return false;
        if (lane < FLOAT) return y == 0;
        FloatForm form = formOf(lane);
        return form.sizeOf(y) == 0 || form.isEndless(x);
    }

    private static long shapedWhole(int lane, int way, long x, long y) {
        switch (way) {
            case WAY_SIZE: return told(lane, Math.abs(x));
            case WAY_GREATER: return Math.max(x, y);
            case WAY_LESSER: return Math.min(x, y);
            case WAY_LEFT: return y == 0 ? x : x % y;
            case WAY_INT: return (int) x;
            case WAY_BY: return y == 0 ? x : told(lane, x / y);
            default: return x;
        }
    }

    private static long shapedFloating(FloatForm form, int way, long x, long y) {
        switch (way) {
            case WAY_SIZE: return form.sizeOf(x);
            case WAY_SIGN: return form.sizeOf(x) == 0 ? x : form.signed(form.one(), x < 0);
            case WAY_GREATER: return form.rank(x) >= form.rank(y) ? x : y;
            case WAY_LESSER: return form.rank(x) <= form.rank(y) ? x : y;
            case WAY_SIGN_OF: return form.signed(form.sizeOf(x), y < 0);
            case WAY_LEFT: return form.left(x, y);
            case WAY_LONG: return form.cut(x);
            case WAY_INT: return Math.max(LEAST_INT, Math.min(GREATEST_INT, form.cut(x)));
            default: return form.whole(x, way);
        }
    }

    // ---- bodies: each notes its number as it begins

    private void note(int body) {
        if (tracedCount < traced.length) {
            traced[tracedCount] = body;
            tracedCount++;
        }
    }

    private int colourOf(Voice voice) {
        if (isOfKind(voice.kind, BELL)) {
            note(2);
            return plainColour(voice) + voice.ownLevel;
        }
        if (voice.kind == WIND) {
            note(3);
            return plainColour(voice) - 1;
        }
        return plainColour(voice);
    }

    private int plainColour(Voice voice) {
        note(1);
        return voice.level;
    }

    private int strengthOf(Voice voice) {
        if (isOfKind(voice.kind, TONE)) return plainStrength();
        if (voice.kind == WIND) {
            note(12);
            return noiseStrength() + 1;
        }
        return noiseStrength();
    }

    private int noiseStrength() {
        note(11);
        return 2 * plainStrength();
    }

    private int plainStrength() {
        note(10);
        return 3;
    }

    private int playOf(Voice voice) {
        if (voice.kind == CHIME) {
            note(21);
            int asBell = tonePlay(voice);
            return asBell + strengthOf(voice);
        }
        if (voice.kind == DRUM) {
            note(23);
            return noisePlay(voice) + 7 * voice.skin;
        }
        return isOfKind(voice.kind, TONE) ? tonePlay(voice) : noisePlay(voice);
    }

    private int tonePlay(Voice voice) {
        note(20);
        return 2 * colourOf(voice);
    }

    private int noisePlay(Voice voice) {
        note(22);
        return -colourOf(voice);
    }

    private int heardOf(Voice voice) {
        if (voice.kind == DRUM) {
            note(31);
            int strength = strengthOf(voice);
            return strength - playOf(voice);
        }
        note(30);
        int played = playOf(voice);
        return played + strengthOf(voice);
    }

    private void turnVoice(Voice voice, int by) {
        if (isOfKind(voice.kind, BELL)) {
            note(41);
            voice.ownLevel -= by;
        }
        note(40);
        voice.level += by;
        voice.edits++;
    }

    private static boolean hasLevel(int kind, int as) {
        switch (as) {
            case AS_OWN_LEVEL: return isOfKind(kind, BELL);
            case AS_SKIN: return kind == DRUM;
            default: return true;
        }
    }

    /** What a box can hold. */
    private abstract static class Thing {
        abstract int code();

        /** The digest h with the numbers of this thing behind it. */
        abstract long joinedTo(long h);
    }

    /** A row of numbers of one lane, each kept as its word; the lines of a sheet are such rows of ints. */
    private static final class Curve extends Thing {
        final int lane;
        final long[] words;

        Curve(int lane, long[] words) {
            this.lane = lane;
            this.words = words;
        }

        boolean has(int i) {
            return i >= 0 && i < words.length;
        }

        boolean hasPart(int from, int n) {
            return from >= 0 && n >= 0 && n <= words.length && from <= words.length - n;
        }

        int code() {
            return lane;
        }

        long joinedTo(long h) {
            long all = joined(h, words.length);
            for (int i = 0; i < words.length; i++) all = joined(all, words[i]);
            return all;
        }
    }

    private static final class Sheet extends Thing {
        final Curve[] lines;

        Sheet(Curve[] lines) {
            this.lines = lines;
        }

        boolean has(int i) {
            return i >= 0 && i < lines.length;
        }

        int code() {
            return SHEET_CODE;
        }

        long joinedTo(long h) {
            long all = joined(h, lines.length);
            for (int i = 0; i < lines.length; i++) {
                Curve row = lines[i];
                all = row == null ? joined(all, NONE) : row.joinedTo(all);
            }
            return all;
        }
    }

    private static final class Bank extends Thing {
        final int kind;
        final Voice[] places;

        Bank(int kind, Voice[] places) {
            this.kind = kind;
            this.places = places;
        }

        boolean has(int i) {
            return i >= 0 && i < places.length;
        }

        int code() {
            return BANK_CODE + kind;
        }

        long joinedTo(long h) {
            long all = joined(h, places.length);
            for (int i = 0; i < places.length; i++) all = joined(all, numberOf(places[i]));
            return all;
        }
    }

    private static final class Voice extends Thing {
        final int kind;
        final int number;
        int level;
        int ownLevel;
        int skin;
        int edits;
        boolean troubled;

        Voice(int kind, int number) {
            this.kind = kind;
            this.number = number;
        }

        int code() {
            return VOICE_CODE + kind;
        }

        long joinedTo(long h) {
            long all = joined(joined(h, number), level);
            all = joined(joined(all, ownLevel), skin);
            return joined(joined(all, edits), troubled ? 1 : 0);
        }
    }

    /**
     * Works on floats or doubles by their bits alone, as the language rules leave no way from bits to a float.
     * A float's word has its sign in all the upper bits, so that in both forms a word below 0 is one with a minus.
     */
    private static final class FloatForm {
        final int fractionBits;
        final int bias;
        final long minus;

        FloatForm(int fractionBits, int bias, long minus) {
            this.fractionBits = fractionBits;
            this.bias = bias;
            this.minus = minus;
        }

        long sizeOf(long word) {
            return word & ~minus;
        }

        long signed(long size, boolean below) {
            return below ? size | minus : size;
        }

        long one() {
            return (long) bias << fractionBits;
        }

        long endless() {
            return (2L * bias + 1) << fractionBits;
        }

        boolean isEndless(long word) {
            return sizeOf(word) == endless();
        }

        boolean isNumber(long word) {
            return sizeOf(word) <= endless();
        }

        /** Grows with the number; -0.0 comes just below 0.0. */
        long rank(long word) {
            long size = sizeOf(word);
            return word < 0 ? -1 - size : size;
        }

        int powerOf(long size) {
            return (int) (size >>> fractionBits) - bias;
        }

        /** The whole number below, above or nearest. */
        long whole(long word, int way) {
            long size = sizeOf(word);
            int power = powerOf(size);
            if (size == 0 || power >= fractionBits) return word;
            boolean below = word < 0;
            if (power < 0) {
                long half = one() - (1L << fractionBits);
                return signed(goesOut(way, below, size > half) ? one() : 0, below);
            }
            long unit = 1L << (fractionBits - power);
            long inner = size & -unit;
            long rest = size - inner;
            if (rest == 0) return word;
            boolean odd = (inner & unit) != 0;
            boolean outerIsNearer = odd ? rest >= unit / 2 : rest > unit / 2;
            return signed(goesOut(way, below, outerIsNearer) ? inner + unit : inner, below);
        }

        /** Whether rounding goes away from 0. */
        private static boolean goesOut(int way, boolean below, boolean outerIsNearer) {
            switch (way) {
                case WAY_FLOOR: return below;
                case WAY_CEILING: return !below;
                default: return outerIsNearer;
            }
        }

        /** The power's field, as the digits count: those without the leading 1 have the least power, too. */
        private int fieldOf(long size) {
            return Math.max(1, (int) (size >>> fractionBits));
        }

        private long digitsOf(long size) {
            long leading = 1L << fractionBits;
            long digits = size & (leading - 1);
            return size >= leading ? digits | leading : digits;
        }

        /** What is left of x by y: long division of the digits, ten bits a step, so that none is lost at the top. */
        long left(long x, long y) {
            int field = fieldOf(sizeOf(y));
            int shifts = fieldOf(sizeOf(x)) - field;
            long divisor = digitsOf(sizeOf(y));
            if (shifts < 0 || divisor == 0) return x;
            long rest = digitsOf(sizeOf(x)) % divisor;
            for (int to = shifts; to > 0; to -= 10) {
                rest = (rest << Math.min(to, 10)) % divisor;
            }
            return signed(packed(rest, field), x < 0);
        }

        private long packed(long digits, int field) {
            if (digits == 0) return 0;
            long leading = 1L << fractionBits;
            long moved = digits;
            int power = field;
            for (; power > 1 && moved < leading; power--) moved <<= 1;
            return ((long) (power - 1) << fractionBits) + moved;
        }

        /** As a long, cut; beyond the longs the least or the greatest one. */
        long cut(long word) {
            long size = sizeOf(word);
            int power = powerOf(size);
            if (power < 0) return 0;
            if (power > 62) return word < 0 ? LEAST_LONG : GREATEST_LONG;
            int shift = power - fractionBits;
            long digits = digitsOf(size);
            long cutSize = shift < 0 ? digits >>> -shift : digits << shift;
            return word < 0 ? -cutSize : cutSize;
        }
    }
}
