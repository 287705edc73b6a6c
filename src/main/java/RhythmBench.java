/**
 * A workbench for rhythms: parts are written as texts, unfolded into events at exact times, checked
 * against a meter, swung, laid over one another, played in loops and measured.
 */
public final class RhythmBench {
    public static final int BAD = -1;
    public static final int STATE = -2;
    public static final int FULL = -3;
    public static final int NONE = -9;

    private static final int PARTS = 4;
    private static final int TEXT_ROOM = 100;
    /** Nine passes of a repeat that fills a whole text stay below this. */
    private static final int UNFOLDED_ROOM = 9 * TEXT_ROOM;
    private static final int MOST_SOUNDS = 300;
    private static final int MOST_TIMES = PARTS * MOST_SOUNDS;
    private static final int HISTORY_ROOM = 5;
    private static final int WRONG_TEXT = -100;

    /**
     * The ticks of a whole note: 2^13 * 3^4 * 5^2 * 7^2. A doubly dotted t is 7/128, and two tuplets
     * divide by two digits from 2 to 9, so each length is a whole number of ticks, and fractions
     * are needed only when a time is told.
     */
    private static final long WHOLE = 812851200L;

    private static final long LONGEST_CYCLE = 1000L * WHOLE;
    private static final int DEEPEST_LEVEL = 6;
    private static final int MOST_STEPS = 32;
    private static final int FINEST_GRID = 1000;
    private static final int FINEST_LEAST_GRID = 10000;

    private final Text buffer;
    private final Text draft;
    private final Grammar grammar;
    private final Part[] parts;
    private final State[] history;
    private final Overlay overlay;
    private int remembered;
    private int beats;
    private int value;
    private int swingA;
    private int swingB;

    public RhythmBench() {
        buffer = new Text(TEXT_ROOM);
        draft = new Text(UNFOLDED_ROOM);
        grammar = new Grammar();
        parts = new Part[PARTS];
        for (int k = 0; k < PARTS; k++) {
            parts[k] = new Part();
        }
        history = new State[HISTORY_ROOM];
        for (int k = 0; k < HISTORY_ROOM; k++) {
            history[k] = new State();
        }
        overlay = new Overlay();
        beats = 4;
        value = 4;
        swingA = 1;
        swingB = 1;
    }

    // ---- texts

    public int type(int c) {
        if (c < 32 || c > 126) {
            return BAD;
        }
        if (buffer.isFull()) {
            return FULL;
        }
        buffer.append(c);
        return buffer.size();
    }

    public int clear() {
        int had = buffer.size();
        buffer.makeEmpty();
        return had;
    }

    public int read(int part) {
        Part target = partAt(part);
        if (target == null) {
            return BAD;
        }
        int place = grammar.wrongPlace(buffer);
        if (place != NONE) {
            return WRONG_TEXT - place;
        }
        Unfolding.unfold(buffer, draft);
        if (Unfolding.sounds(draft) > MOST_SOUNDS) {
            return FULL;
        }
        remember();
        target.take(buffer);
        buffer.makeEmpty();
        return target.score.count();
    }

    public int copy(int from, int to) {
        Part source = partAt(from);
        Part target = partAt(to);
        if (source == null || target == null) {
            return BAD;
        }
        remember();
        target.take(source.text);
        return target.score.count();
    }

    public int spread(int part, int hits, int steps, int letter) {
        Part target = partAt(part);
        if (target == null || steps < 1 || steps > MOST_STEPS || hits < 0 || hits > steps) {
            return BAD;
        }
        if (Notation.halvings(letter) < 0) {
            return BAD;
        }
        remember();
        draft.makeEmpty();
        for (int i = 0; i < steps; i++) {
            if ((i * hits) % steps >= hits) {
                draft.append('r');
            }
            draft.append(letter);
        }
        target.take(draft);
        return target.score.count();
    }

    public int textOf(int part, int k) {
        Part p = partAt(part);
        if (p == null || k < 0) {
            return BAD;
        }
        return p.text.at(k);
    }

    public int unfolded(int part, int k) {
        Part p = partAt(part);
        if (p == null || k < 0) {
            return BAD;
        }
        return p.unfoldedText.at(k);
    }

    // ---- meter, swing

    public int setMeter(int beats, int value) {
        if (beats < 1 || beats > 16 || !isMeterValue(value)) {
            return BAD;
        }
        remember();
        int previous = 100 * this.beats + this.value;
        this.beats = beats;
        this.value = value;
        return previous;
    }

    public int setSwing(int a, int b) {
        if (a < 1 || a > 9 || b < 1 || b > 9) {
            return BAD;
        }
        remember();
        int previous = 10 * swingA + swingB;
        swingA = a;
        swingB = b;
        return previous;
    }

    // ---- events

    public int events(int part) {
        Part p = partAt(part);
        return p == null ? BAD : p.score.count();
    }

    public long length(int part, int what) {
        Part p = partAt(part);
        if (p == null || !isSide(what)) {
            return BAD;
        }
        return side(p.score.total(), WHOLE, what);
    }

    public long onset(int part, int i, int what) {
        Part p = partAt(part);
        if (p == null || !p.score.hasEvent(i) || !isSide(what)) {
            return BAD;
        }
        return side(p.score.begin(i), WHOLE, what);
    }

    public long lasts(int part, int i, int what) {
        Part p = partAt(part);
        if (p == null || !p.score.hasEvent(i) || !isSide(what)) {
            return BAD;
        }
        return side(p.score.end(i) - p.score.begin(i), WHOLE, what);
    }

    public long swung(int part, int i, int what) {
        Part p = partAt(part);
        if (p == null || !p.score.hasEvent(i) || !isSide(what)) {
            return BAD;
        }
        return side(swing(p.score.begin(i)), WHOLE * (swingA + swingB), what);
    }

    public int event(int part, int i, int what) {
        Part p = partAt(part);
        if (p == null || !p.score.hasEvent(i)) {
            return BAD;
        }
        switch (what) {
            case 0:
                return p.score.isAccented(i) ? 1 : 0;
            case 1:
                return p.score.barOf(i);
            case 2:
                return p.score.notesOf(i);
            case 3:
                return level(p.score.begin(i));
            case 4:
                return syncopationOf(p.score, i);
            default:
                return BAD;
        }
    }

    // ---- bars

    public int bars(int part) {
        Part p = partAt(part);
        return p == null ? BAD : p.score.barCount();
    }

    public long bar(int part, int bar, int what) {
        Part p = partAt(part);
        if (p == null || !p.score.hasBar(bar) || !isSide(what)) {
            return BAD;
        }
        return side(p.score.barLength(bar), WHOLE, what);
    }

    public int wrongBar(int part) {
        Part p = partAt(part);
        if (p == null) {
            return BAD;
        }
        long due = meterLength();
        int count = p.score.barCount();
        for (int k = 0; k < count; k++) {
            long ticks = p.score.barLength(k);
            boolean isEmptyLast = k == count - 1 && ticks == 0;
            if (ticks != due && !isEmptyLast) {
                return k;
            }
        }
        return NONE;
    }

    public int syncopation(int part) {
        Part p = partAt(part);
        if (p == null) {
            return BAD;
        }
        int sum = 0;
        int count = p.score.count();
        for (int i = 0; i < count; i++) {
            sum += syncopationOf(p.score, i);
        }
        return sum;
    }

    // ---- grids

    public int offGrid(int part, int grid) {
        Part p = partAt(part);
        if (p == null || grid < 1 || grid > FINEST_GRID) {
            return BAD;
        }
        int off = 0;
        int count = p.score.count();
        for (int i = 0; i < count; i++) {
            if ((p.score.begin(i) * grid) % WHOLE != 0) {
                off++;
            }
        }
        return off;
    }

    public int leastGrid(int part) {
        Part p = partAt(part);
        if (p == null) {
            return BAD;
        }
        long step = WHOLE;
        int count = p.score.count();
        for (int i = 0; i < count; i++) {
            step = commonDivisor(step, p.score.begin(i));
        }
        if (step <= 0) {
            return NONE;
        }
        // The step divides a whole note, so the grids that hold all events are the multiples of this.
        long grid = WHOLE / step;
        return grid <= FINEST_LEAST_GRID ? (int) grid : NONE;
    }

    // ---- parts together

    public int times() {
        overlay.start();
        int count = 0;
        while (count < MOST_TIMES && overlay.advance(parts)) {
            count++;
        }
        return count;
    }

    public long time(int i, int what) {
        if (i < 0 || i >= MOST_TIMES || what < 0 || what > 2) {
            return BAD;
        }
        overlay.start();
        for (int k = 0; k <= i; k++) {
            if (!overlay.advance(parts)) {
                return BAD;
            }
        }
        return what == 2 ? overlay.set() : side(overlay.now(), WHOLE, what);
    }

    public long cycle(int p, int q, int what) {
        Part first = partAt(p);
        Part second = partAt(q);
        if (first == null || second == null || !isSide(what)) {
            return BAD;
        }
        long ticks = commonCycle(first.score.total(), second.score.total());
        return ticks < 0 ? ticks : side(ticks, WHOLE, what);
    }

    public int meets(int p, int q) {
        Part first = partAt(p);
        Part second = partAt(q);
        if (first == null || second == null) {
            return BAD;
        }
        long ticks = commonCycle(first.score.total(), second.score.total());
        if (ticks < 0) {
            return (int) ticks;
        }
        return meetings(first.score, second.score);
    }

    // ---- history

    public int undo() {
        if (remembered < 1 || remembered > HISTORY_ROOM) {
            return NONE;
        }
        remembered--;
        State state = history[remembered];
        for (int k = 0; k < PARTS; k++) {
            parts[k].take(state.texts[k]);
        }
        beats = state.beats;
        value = state.value;
        swingA = state.swingA;
        swingB = state.swingB;
        return remembered;
    }

    public long fingerprint() {
        long print = 71;
        for (int k = 0; k < PARTS; k++) {
            Text text = parts[k].text;
            print = 31 * print + text.size();
            for (int i = 0; i < text.size(); i++) {
                print = 31 * print + text.at(i);
            }
        }
        print = 31 * print + beats;
        print = 31 * print + value;
        print = 31 * print + swingA;
        return 31 * print + swingB;
    }

    // ---- what the calls share

    /** Returns null if there is no such part, so that one test serves for both. */
    private Part partAt(int part) {
        return part >= 0 && part < PARTS ? parts[part] : null;
    }

    private void remember() {
        if (remembered >= HISTORY_ROOM) {
            dropOldest();
        }
        State state = history[remembered];
        for (int k = 0; k < PARTS; k++) {
            state.texts[k].become(parts[k].text);
        }
        state.beats = beats;
        state.value = value;
        state.swingA = swingA;
        state.swingB = swingB;
        remembered++;
    }

    /** The dropped object goes to the end, to be used again. */
    private void dropOldest() {
        State oldest = history[0];
        for (int k = 1; k < HISTORY_ROOM; k++) {
            history[k - 1] = history[k];
        }
        history[HISTORY_ROOM - 1] = oldest;
        remembered = HISTORY_ROOM - 1;
    }

    private static boolean isMeterValue(int value) {
        return value == 1 || value == 2 || value == 4 || value == 8 || value == 16;
    }

    private long meterLength() {
        return value < 1 ? WHOLE : beats * WHOLE / value;
    }

    private int level(long time) {
        long meter = meterLength();
        if (meter < 1) {
            return DEEPEST_LEVEL + 1;
        }
        for (int k = 0; k <= DEEPEST_LEVEL; k++) {
            if ((time << k) % meter == 0) {
                return k;
            }
        }
        return DEEPEST_LEVEL + 1;
    }

    /** The least level of a time after the one and before the other. */
    private int leastLevelBetween(long begin, long end) {
        long meter = meterLength();
        if (meter < 1) {
            return DEEPEST_LEVEL + 1;
        }
        for (int k = 0; k <= DEEPEST_LEVEL; k++) {
            long next = ((begin << k) / meter + 1) * meter;
            if (next < (end << k)) {
                return k;
            }
        }
        return DEEPEST_LEVEL + 1;
    }

    private int syncopationOf(Score score, int i) {
        long begin = score.begin(i);
        return Math.max(0, level(begin) - leastLevelBetween(begin, score.end(i)));
    }

    /** The swung time, in parts of a tick: as many to a tick as both numbers of the swing make. */
    private long swing(long time) {
        long quarter = WHOLE / 4;
        long eighth = WHOLE / 8;
        long rest = time % quarter;
        long start = (time - rest) * (swingA + swingB);
        if (rest < eighth) {
            return start + rest * 2 * swingA;
        }
        return start + quarter * swingA + (rest - eighth) * 2 * swingB;
    }

    private static boolean isSide(int what) {
        return what == 0 || what == 1;
    }

    /** The numerator (what = 0) or the denominator of a fraction in lowest terms. */
    private static long side(long numerator, long denominator, int what) {
        long divisor = commonDivisor(numerator, denominator);
        if (divisor < 1) {
            return 0;
        }
        return (what == 0 ? numerator : denominator) / divisor;
    }

    /** The greatest common divisor of two numbers that are not negative. */
    private static long commonDivisor(long a, long b) {
        long greater = a;
        long rest = b;
        // Two longs need fewer than a hundred steps, as Fibonacci numbers are the worst case.
        for (int step = 0; step < 100 && rest != 0; step++) {
            long next = greater % rest;
            greater = rest;
            rest = next;
        }
        return greater;
    }

    /** The cycle of two lengths in ticks, or the error that cycle() and meets() return. */
    private static long commonCycle(long first, long second) {
        if (first < 1 || second < 1) {
            return STATE;
        }
        long divisor = commonDivisor(first, second);
        if (divisor < 1) {
            return STATE;
        }
        long rounds = first / divisor;
        // Compared before they are multiplied: the product of two lengths may not fit a long.
        return rounds > LONGEST_CYCLE / second ? FULL : rounds * second;
    }

    /**
     * Two events of parts in loops begin together once in a cycle if their beginnings leave the same
     * rest by the common divisor of both lengths, and never otherwise.
     */
    private static int meetings(Score first, Score second) {
        long divisor = commonDivisor(first.total(), second.total());
        if (divisor < 1) {
            return 0;
        }
        int found = 0;
        int firstCount = first.count();
        int secondCount = second.count();
        for (int i = 0; i < firstCount; i++) {
            long begin = first.begin(i);
            for (int j = 0; j < secondCount; j++) {
                if ((begin - second.begin(j)) % divisor == 0) {
                    found++;
                }
            }
        }
        return found;
    }

    /** The signs of the notation that several classes need. */
    private static final class Notation {
        private static final String LETTERS = "whqest";

        private Notation() {
        }

        /** How often a whole note is halved for a letter; -1 for what is no letter of a length. */
        static int halvings(int code) {
            return code < 32 || code > 126 ? -1 : LETTERS.indexOf((char) code);
        }

        /** The number that a digit stands for; -1 for what is no digit. */
        static int digit(int code) {
            return code >= '0' && code <= '9' ? code - '0' : -1;
        }
    }

    /** A row of characters in a room of its own, so that no call needs a new array. */
    private static final class Text {
        private final char[] codes;
        private int size;

        Text(int room) {
            codes = new char[Math.max(room, 0)];
        }

        int size() {
            return size;
        }

        boolean isFull() {
            return size >= codes.length;
        }

        int at(int k) {
            return k >= 0 && k < size ? codes[k] : NONE;
        }

        void makeEmpty() {
            size = 0;
        }

        void append(int code) {
            if (size < codes.length) {
                codes[size] = (char) code;
                size++;
            }
        }

        void appendPiece(Text other, int from, int to) {
            int end = Math.min(to, other.size);
            for (int k = Math.max(from, 0); k < end; k++) {
                append(other.codes[k]);
            }
        }

        void become(Text other) {
            int count = Math.min(other.size, codes.length);
            for (int k = 0; k < count; k++) {
                codes[k] = other.codes[k];
            }
            size = count;
        }

        /** The first index, not before another, at which one of two characters is; the size if there is none. */
        int seek(int from, int one, int other) {
            for (int k = from < 0 ? 0 : from; k < size; k++) {
                if (codes[k] == one || codes[k] == other) {
                    return k;
                }
            }
            return size;
        }
    }

    /**
     * Takes a text character by character. From each of its states a text of a part can still be
     * reached, so the first character that it refuses is the place at which the text is wrong.
     */
    private static final class Grammar {
        private static final int DEEPEST_TUPLET = 2;

        private static final int ITEMS = 0;
        private static final int NOTE_LETTER = 1;
        private static final int REST_LETTER = 2;
        private static final int TUPLET_COUNT = 3;
        private static final int TUPLET_COLON = 4;
        private static final int TUPLET_SPACE = 5;
        private static final int ENDING_DIGIT = 6;
        private static final int ENDING_DIGITS = 7;
        private static final int PASSES = 8;

        private int state;
        private int depth;
        private boolean isFilled;
        private boolean isInRepeat;
        private int dotsLeft;
        private boolean canTie;

        /** The place at which a text is wrong, or NONE. */
        int wrongPlace(Text text) {
            start();
            for (int k = 0; k < text.size(); k++) {
                if (!accepts(text.at(k))) {
                    return k;
                }
            }
            boolean isWhole = state == ITEMS && depth == 0 && !isInRepeat;
            return isWhole ? NONE : text.size();
        }

        private void start() {
            state = ITEMS;
            depth = 0;
            isFilled = false;
            isInRepeat = false;
            endSound();
        }

        private boolean accepts(int code) {
            int digit = Notation.digit(code);
            switch (state) {
                case NOTE_LETTER:
                    return beginsSound(code, true);
                case REST_LETTER:
                    return beginsSound(code, false);
                case TUPLET_COUNT:
                    return goesOn(digit >= 2, TUPLET_COLON);
                case TUPLET_COLON:
                    return goesOn(code == ':', TUPLET_SPACE);
                case TUPLET_SPACE:
                    return goesOn(digit >= 2, ITEMS);
                case ENDING_DIGIT:
                    return goesOn(digit >= 1, ENDING_DIGITS);
                case ENDING_DIGITS:
                    return digit >= 1 || goesOn(code == ':', ITEMS);
                case PASSES:
                    return goesOn(digit >= 2, ITEMS);
                default:
                    return acceptsItem(code);
            }
        }

        private boolean goesOn(boolean isRight, int next) {
            if (isRight) {
                state = next;
            }
            return isRight;
        }

        private boolean acceptsItem(int code) {
            if (code == '.') {
                return addsDot();
            }
            if (code == '~') {
                return addsTie();
            }
            endSound();
            switch (code) {
                case '^':
                    return goesOn(true, NOTE_LETTER);
                case 'r':
                    return goesOn(true, REST_LETTER);
                case '{':
                    return opensTuplet();
                case '}':
                    return closesTuplet();
                case '|':
                    return depth == 0;
                case '[':
                    return opensRepeat();
                case '/':
                    return goesOn(isInRepeat && depth == 0, ENDING_DIGIT);
                case ']':
                    return closesRepeat();
                default:
                    return beginsSound(code, true);
            }
        }

        private boolean beginsSound(int code, boolean isNote) {
            if (Notation.halvings(code) < 0) {
                return false;
            }
            state = ITEMS;
            isFilled = true;
            dotsLeft = 2;
            canTie = isNote;
            return true;
        }

        private void endSound() {
            dotsLeft = 0;
            canTie = false;
        }

        private boolean addsDot() {
            if (dotsLeft < 1) {
                return false;
            }
            dotsLeft--;
            return true;
        }

        private boolean addsTie() {
            boolean could = canTie;
            endSound();
            return could;
        }

        private boolean opensTuplet() {
            if (depth >= DEEPEST_TUPLET) {
                return false;
            }
            depth++;
            isFilled = false;
            return goesOn(true, TUPLET_COUNT);
        }

        private boolean closesTuplet() {
            if (depth < 1 || !isFilled) {
                return false;
            }
            // The tuplet around this one has this one in it, so it stays filled.
            depth--;
            return true;
        }

        private boolean opensRepeat() {
            if (depth > 0 || isInRepeat) {
                return false;
            }
            isInRepeat = true;
            return true;
        }

        private boolean closesRepeat() {
            if (depth > 0 || !isInRepeat) {
                return false;
            }
            isInRepeat = false;
            return goesOn(true, PASSES);
        }
    }

    /** Replaces the repeats of a right text by their passes. */
    private static final class Unfolding {
        private Unfolding() {
        }

        static void unfold(Text text, Text result) {
            result.makeEmpty();
            int size = text.size();
            for (int k = 0; k < size; k++) {
                if (text.at(k) == '[') {
                    int close = text.seek(k, ']', ']');
                    appendPasses(text, k, close, result);
                    // The digit behind the bracket belongs to the repeat.
                    k = Math.max(k, close + 1);
                } else {
                    result.append(text.at(k));
                }
            }
        }

        private static void appendPasses(Text text, int open, int close, Text result) {
            int passes = Notation.digit(text.at(close + 1));
            int bodyEnd = text.seek(open, '/', ']');
            for (int pass = 1; pass <= passes; pass++) {
                result.appendPiece(text, open + 1, bodyEnd);
                appendEnding(text, bodyEnd, close, pass, result);
            }
        }

        /** In bodies there is no slash, so each one begins an ending. */
        private static void appendEnding(Text text, int from, int close, int pass, Text result) {
            for (int k = from; k < close; k++) {
                if (text.at(k) == '/' && isEndingOf(text, k, pass)) {
                    int colon = text.seek(k, ':', ':');
                    result.appendPiece(text, colon + 1, text.seek(colon, '/', ']'));
                    return;
                }
            }
        }

        private static boolean isEndingOf(Text text, int slash, int pass) {
            int colon = text.seek(slash, ':', ':');
            for (int k = slash + 1; k < colon; k++) {
                if (Notation.digit(text.at(k)) == pass) {
                    return true;
                }
            }
            return false;
        }

        /** The number of notes and rests: each has one letter of a length. */
        static int sounds(Text text) {
            int count = 0;
            for (int k = 0; k < text.size(); k++) {
                if (Notation.halvings(text.at(k)) >= 0) {
                    count++;
                }
            }
            return count;
        }
    }

    /** The events and bars of an unfolded text, with times in ticks. */
    private static final class Score {
        private static final int[] DOTTED_QUARTERS = {4, 6, 7};

        private final long[] begins = new long[MOST_SOUNDS];
        private final long[] ends = new long[MOST_SOUNDS];
        private final int[] noteCounts = new int[MOST_SOUNDS];
        private final int[] barNumbers = new int[MOST_SOUNDS];
        private final boolean[] accents = new boolean[MOST_SOUNDS];
        private final long[] barLengths = new long[UNFOLDED_ROOM + 1];
        private final TupletScale scale = new TupletScale();
        private int count;
        private int barCount;
        private long total;
        private boolean isTied;

        Score() {
            start();
        }

        int count() {
            return count;
        }

        int barCount() {
            return barCount;
        }

        long total() {
            return total;
        }

        boolean hasEvent(int i) {
            return i >= 0 && i < count;
        }

        boolean hasBar(int bar) {
            return bar >= 0 && bar < barCount;
        }

        long begin(int i) {
            return hasEvent(i) ? begins[i] : 0;
        }

        long end(int i) {
            return hasEvent(i) ? ends[i] : 0;
        }

        int notesOf(int i) {
            return hasEvent(i) ? noteCounts[i] : 0;
        }

        int barOf(int i) {
            return hasEvent(i) ? barNumbers[i] : 0;
        }

        boolean isAccented(int i) {
            return hasEvent(i) && accents[i];
        }

        long barLength(int bar) {
            return hasBar(bar) ? barLengths[bar] : 0;
        }

        void build(Text unfoldedText) {
            start();
            for (int k = 0; k < unfoldedText.size(); k++) {
                int code = unfoldedText.at(k);
                if (code == '|') {
                    beginBar();
                } else if (code == '{') {
                    scale.open(Notation.digit(unfoldedText.at(k + 1)), Notation.digit(unfoldedText.at(k + 3)));
                } else if (code == '}') {
                    scale.close();
                } else if (Notation.halvings(code) >= 0) {
                    addSound(unfoldedText, k);
                }
            }
        }

        private void start() {
            count = 0;
            barCount = 1;
            barLengths[0] = 0;
            total = 0;
            isTied = false;
            scale.start();
        }

        private void beginBar() {
            if (barCount < barLengths.length) {
                barLengths[barCount] = 0;
                barCount++;
            }
        }

        /** What stands before and behind the letter at k tells what the sound is. */
        private void addSound(Text text, int k) {
            int dots = 0;
            while (dots < 2 && text.at(k + 1 + dots) == '.') {
                dots++;
            }
            long ticks = scale.apply(WHOLE * DOTTED_QUARTERS[dots], 4L << Notation.halvings(text.at(k)));
            if (text.at(k - 1) == 'r') {
                isTied = false;
            } else {
                addNote(ticks, text.at(k - 1) == '^');
                isTied = text.at(k + 1 + dots) == '~';
            }
            total += ticks;
            if (hasBar(barCount - 1)) {
                barLengths[barCount - 1] += ticks;
            }
        }

        private void addNote(long ticks, boolean isAccented) {
            if (isTied && hasEvent(count - 1)) {
                ends[count - 1] += ticks;
                noteCounts[count - 1]++;
            } else if (count < MOST_SOUNDS) {
                begins[count] = total;
                ends[count] = total + ticks;
                noteCounts[count] = 1;
                barNumbers[count] = barCount - 1;
                accents[count] = isAccented;
                count++;
            }
        }
    }

    /** The fraction by which the tuplets that are open multiply lengths. */
    private static final class TupletScale {
        private final long[] ups = new long[Grammar.DEEPEST_TUPLET + 1];
        private final long[] downs = new long[Grammar.DEEPEST_TUPLET + 1];
        private int depth;

        TupletScale() {
            ups[0] = 1;
            downs[0] = 1;
        }

        void start() {
            depth = 0;
        }

        void open(int m, int n) {
            if (depth >= 0 && depth < Grammar.DEEPEST_TUPLET) {
                ups[depth + 1] = ups[depth] * n;
                downs[depth + 1] = downs[depth] * m;
                depth++;
            }
        }

        void close() {
            if (depth > 0) {
                depth--;
            }
        }

        /** Multiplies all before it divides, so that nothing is lost. */
        long apply(long numerator, long denominator) {
            if (depth < 0 || depth > Grammar.DEEPEST_TUPLET) {
                return 0;
            }
            long divisor = denominator * downs[depth];
            return divisor < 1 ? 0 : numerator * ups[depth] / divisor;
        }
    }

    /** A text and what follows from it. */
    private static final class Part {
        private final Text text = new Text(TEXT_ROOM);
        private final Text unfoldedText = new Text(UNFOLDED_ROOM);
        private final Score score = new Score();

        void take(Text other) {
            text.become(other);
            Unfolding.unfold(text, unfoldedText);
            score.build(unfoldedText);
        }
    }

    /** What an act can change, as it was before the act. */
    private static final class State {
        private final Text[] texts;
        private int beats;
        private int value;
        private int swingA;
        private int swingB;

        State() {
            texts = new Text[PARTS];
            for (int k = 0; k < PARTS; k++) {
                texts[k] = new Text(TEXT_ROOM);
            }
        }
    }

    /** Goes through the different times at which events of any part begin, in ascending order. */
    private static final class Overlay {
        private final int[] ahead = new int[PARTS];
        private long now;
        private int set;

        long now() {
            return now;
        }

        /** The parts that have an event now, bit k for part k. */
        int set() {
            return set;
        }

        void start() {
            for (int k = 0; k < PARTS; k++) {
                ahead[k] = 0;
            }
            now = 0;
            set = 0;
        }

        /** Goes to the next time; false if there is none. */
        boolean advance(Part[] parts) {
            set = 0;
            for (int k = 0; k < PARTS && k < parts.length; k++) {
                Score score = parts[k].score;
                if (score.hasEvent(ahead[k])) {
                    offer(k, score.begin(ahead[k]));
                }
            }
            for (int k = 0; k < PARTS; k++) {
                ahead[k] += (set >> k) & 1;
            }
            return set != 0;
        }

        private void offer(int part, long begin) {
            if (set == 0 || begin < now) {
                now = begin;
                set = 1 << part;
            } else if (begin == now) {
                set |= 1 << part;
            }
        }
    }
}
