/** Promises 1 to 8: a new object, type, clear, read, copy, spread, textOf, unfolded. */
public final class TextsTest {
    private static final Check CHECK = new Check();

    public static void main(String[] args) {
        newObject();
        type();
        clear();
        readRightTexts();
        readWrongTexts();
        readLongTexts();
        readErrorsChangeNothing();
        copy();
        spread();
        textOf();
        unfolded();
        CHECK.end();
    }

    private static void newObject() {
        RhythmBench bench = new RhythmBench();
        for (int part = 0; part < 4; part++) {
            CHECK.due("new textOf", bench.textOf(part, 0), RhythmBench.NONE);
            CHECK.due("new events", bench.events(part), 0);
            CHECK.due("new bars", bench.bars(part), 1);
            CHECK.dueFraction("new length", bench.length(part, 0), bench.length(part, 1), 0, 1);
        }
        CHECK.due("new clear", bench.clear(), 0);
        CHECK.due("new undo", bench.undo(), RhythmBench.NONE);
        CHECK.due("new setMeter", bench.setMeter(3, 8), 404);
        CHECK.due("new setSwing", bench.setSwing(2, 1), 11);
    }

    private static void type() {
        RhythmBench bench = new RhythmBench();
        int[] refused = {31, 127, 0, -1, 256 + 'q', Integer.MIN_VALUE, Integer.MAX_VALUE};
        for (int c : refused) {
            CHECK.due("type " + c, bench.type(c), RhythmBench.BAD);
        }
        CHECK.due("type least", bench.type(32), 1);
        CHECK.due("type greatest", bench.type(126), 2);
        for (int k = 3; k <= 100; k++) {
            CHECK.due("type", bench.type('q'), k);
        }
        CHECK.due("type into a full buffer", bench.type('q'), RhythmBench.FULL);
        CHECK.due("type a wrong code into a full buffer", bench.type(127), RhythmBench.BAD);
        CHECK.due("clear after full", bench.clear(), 100);
        CHECK.due("type after clear", bench.type('q'), 1);
    }

    private static void clear() {
        RhythmBench bench = new RhythmBench();
        CHECK.due("clear nothing", bench.clear(), 0);
        Check.type(bench, "qqq");
        CHECK.due("clear", bench.clear(), 3);
        CHECK.due("clear again", bench.clear(), 0);
        Check.type(bench, "h");
        CHECK.due("read what came after", bench.read(0), 1);
        CHECK.dueText("text after clear", Check.textOf(bench, 0), "h");
        CHECK.due("read empties the buffer", bench.clear(), 0);
        CHECK.due("clear is no act", bench.undo(), 0);
    }

    private static void readRightTexts() {
        String[] texts = {"", "q", "^q..~", "rq..", "whqest", "|||", "{3:2eee}", "{2:9{9:2q}}", "{2:2{2:2q}{2:2rq}}",
            "[]2", "[/1:]2", "[q/1:h/2:w]2", "[q/11991:h]3", "[|/9:|/9:|]9", "[{3:2{5:4q}q}|]2[q]3", "q~", "q~rq", "{3:2q~}|q"};
        int[] events = {0, 1, 1, 0, 6, 0, 3, 1, 1, 0, 0, 4, 4, 0, 7, 1, 1, 1};
        for (int k = 0; k < texts.length; k++) {
            RhythmBench bench = new RhythmBench();
            CHECK.due("read " + texts[k], Check.read(bench, 3, texts[k]), events[k]);
            CHECK.dueText("text of " + texts[k], Check.textOf(bench, 3), texts[k]);
        }
    }

    private static void readWrongTexts() {
        String[] texts = {"x", " ", "W", ".", "~", "q...", "q~~", "q~.", "rq~", "r", "rr", "r^q", "^", "^^q", "^r", "^|",
            "2", "}", "]", "/", ":", "{", "{1:2q}", "{0:2q}", "{3", "{3q", "{3:", "{3:1q}", "{3:2}", "{3:2", "{3:2q",
            "{3:2|q}", "{3:2[q]2}", "{3:2.", "{2:2{2:2{", "{2:2{2:2}", "{2:2{2:2q}", "{2:2{2:2q}q}}", "{33:2q}",
            "[", "[q", "[q]", "[q]1", "[q]0", "[q]22", "[q]q", "[[", "[q/", "[q/:", "[q/0:", "[q/1", "[q/1q", "[q/10:",
            "[q/1:h", "[q/1:[", "[q/1:h]", "[q/1:h]1", "[q/1:2", "[{3:2q]2", "[{3:2q/1:", "q|/", "q[q]2/", "[q]2]", "{3:2q}.", "{3:2q}~",
            "q|.", "[q]2.", "[.", "{3:2^}", "{3:2r}", "q q", "[q/1 2:h]2",
            "q{3:2}", "{2:2q{2:2}", "[q{3:2}", "{3:2q}{3:2}"};
        int[] places = {0, 0, 0, 0, 0, 3, 2, 2, 2, 1, 1, 1, 1, 1, 1, 1,
            0, 0, 0, 0, 0, 1, 1, 1, 2, 2, 3, 3, 4, 4, 5,
            4, 4, 4, 8, 8, 10, 12, 2,
            1, 2, 3, 3, 3, 4, 3, 1, 3, 3, 3, 4, 4, 4,
            6, 5, 7, 7, 5, 6, 6, 2, 5, 4, 6, 6,
            2, 4, 1, 5, 5, 1, 4,
            5, 9, 6, 10};
        for (int k = 0; k < texts.length; k++) {
            CHECK.due("read " + texts[k], Check.read(new RhythmBench(), 0, texts[k]), -100 - places[k]);
        }
        // What an earlier wrong text left open does not matter to the next one.
        RhythmBench bench = new RhythmBench();
        for (int k = 0; k < texts.length; k++) {
            CHECK.due("read again " + texts[k], Check.read(bench, 0, texts[k]), -100 - places[k]);
            CHECK.due("read right after " + texts[k], Check.read(bench, 0, "q|[q]2"), 3);
            CHECK.due("read a dot after " + texts[k], Check.read(bench, 0, "."), -100);
        }
        // A full buffer that begins a text of a part is wrong at its length.
        CHECK.due("read a full beginning", Check.read(new RhythmBench(), 0, "[" + "q".repeat(99)), -200);
    }

    private static void readLongTexts() {
        String fifty = "q".repeat(50);
        CHECK.due("300 notes", Check.read(new RhythmBench(), 0, "[" + fifty + "]6"), 300);
        CHECK.due("301 notes", Check.read(new RhythmBench(), 0, "[" + fifty + "]6q"), RhythmBench.FULL);
        CHECK.due("301 whole notes", Check.read(new RhythmBench(), 0, "[" + "w".repeat(43) + "]7"), RhythmBench.FULL);
        CHECK.due("300 thirty-seconds", Check.read(new RhythmBench(), 0, "[" + "t".repeat(75) + "]4"), 300);
        CHECK.due("301 with a rest", Check.read(new RhythmBench(), 0, "[" + fifty + "]6rq"), RhythmBench.FULL);
        CHECK.due("300 with ties", Check.read(new RhythmBench(), 0, "[" + "q~".repeat(30) + "]9[" + "e~".repeat(15) + "]2"), 1);
        CHECK.due("301 with ties", Check.read(new RhythmBench(), 0, "[" + "q~".repeat(30) + "]9[" + "e~".repeat(15) + "]2s"), RhythmBench.FULL);
        CHECK.due("301 by an ending", Check.read(new RhythmBench(), 0, "[" + fifty + "/6:q]6"), RhythmBench.FULL);
        CHECK.due("an ending of no pass", Check.read(new RhythmBench(), 0, "[" + fifty + "/7:q]6"), 300);
        CHECK.due("wrong before long", Check.read(new RhythmBench(), 0, "[" + fifty + "]7x"), -153);
        RhythmBench bars = Check.with("[" + "|".repeat(97) + "]9");
        CHECK.due("bar lines are no notes", bars.bars(0), 874);
        CHECK.due("the last unfolded bar line", bars.unfolded(0, 872), '|');
        CHECK.due("behind the last bar line", bars.unfolded(0, 873), RhythmBench.NONE);
    }

    private static void readErrorsChangeNothing() {
        RhythmBench bench = Check.with("hh");
        long print = bench.fingerprint();
        Check.type(bench, "qx");
        CHECK.due("read a wrong text", bench.read(0), -101);
        CHECK.due("read no part", bench.read(4), RhythmBench.BAD);
        CHECK.due("read no part", bench.read(-1), RhythmBench.BAD);
        CHECK.due("the buffer stays", bench.clear(), 2);
        Check.type(bench, "[" + "q".repeat(90) + "]9");
        CHECK.due("read a long text", bench.read(0), RhythmBench.FULL);
        CHECK.due("the buffer stays", bench.clear(), 93);
        CHECK.due("the parts stay", bench.fingerprint(), print);
        CHECK.due("errors are no acts", bench.undo(), 0);
    }

    private static void copy() {
        RhythmBench bench = Check.with("q[e]3");
        CHECK.due("copy", bench.copy(0, 2), 4);
        CHECK.dueText("the copy", Check.textOf(bench, 2), "q[e]3");
        CHECK.dueText("the copy, unfolded", Check.unfolded(bench, 2), "qeee");
        CHECK.dueText("the source", Check.textOf(bench, 0), "q[e]3");
        CHECK.due("copy to itself", bench.copy(2, 2), 4);
        CHECK.dueText("copied to itself", Check.textOf(bench, 2), "q[e]3");
        CHECK.due("copy an empty part", bench.copy(1, 0), 0);
        CHECK.dueText("copied empty", Check.textOf(bench, 0), "");
        int[][] wrong = {{-1, 0}, {4, 0}, {0, -1}, {0, 4}, {Integer.MAX_VALUE, Integer.MIN_VALUE}};
        for (int[] pair : wrong) {
            CHECK.due("copy " + pair[0] + " " + pair[1], bench.copy(pair[0], pair[1]), RhythmBench.BAD);
        }
        CHECK.due("undo the third copy", bench.undo(), 3);
        CHECK.dueText("the source again", Check.textOf(bench, 0), "q[e]3");
    }

    private static void spread() {
        RhythmBench bench = new RhythmBench();
        CHECK.due("spread 3 of 8", bench.spread(0, 3, 8, 'e'), 3);
        CHECK.dueText("3 of 8", Check.textOf(bench, 0), spreadText(3, 8, 'e'));
        CHECK.dueText("3 of 8, written out", Check.textOf(bench, 0), "erereerereere");
        CHECK.due("spread 0 of 2", bench.spread(1, 0, 2, 'w'), 0);
        CHECK.dueText("0 of 2", Check.textOf(bench, 1), "rwrw");
        CHECK.due("spread 32 of 32", bench.spread(2, 32, 32, 't'), 32);
        CHECK.dueText("32 of 32", Check.textOf(bench, 2), "t".repeat(32));
        CHECK.due("spread 1 of 1", bench.spread(3, 1, 1, 'h'), 1);
        CHECK.due("spread 0 of 32", bench.spread(3, 0, 32, 's'), 0);
        CHECK.dueText("0 of 32", Check.textOf(bench, 3), "rs".repeat(32));
        long print = bench.fingerprint();
        int[][] wrong = {{-1, 1, 2, 'q'}, {4, 1, 2, 'q'}, {0, -1, 2, 'q'}, {0, 3, 2, 'q'}, {0, 0, 0, 'q'}, {0, 0, -1, 'q'},
            {0, 1, 33, 'q'}, {0, 1, 2, 'r'}, {0, 1, 2, 'x'}, {0, 1, 2, 0}, {0, 1, 2, -9}, {0, 1, 2, 65536 + 'q'}, {0, 1, 2, '^'}};
        for (int[] a : wrong) {
            CHECK.due("spread of wrong arguments", bench.spread(a[0], a[1], a[2], a[3]), RhythmBench.BAD);
        }
        CHECK.due("wrong spreads change nothing", bench.fingerprint(), print);
        for (int steps = 1; steps <= 32; steps++) {
            for (int hits = 0; hits <= steps; hits++) {
                CHECK.due("spread " + hits + " of " + steps, new RhythmBench().spread(0, hits, steps, 'q'), hits);
            }
        }
        Check.type(bench, "q");
        bench.spread(0, 5, 8, 'q');
        CHECK.dueText("5 of 8", Check.textOf(bench, 0), spreadText(5, 8, 'q'));
        CHECK.due("spread leaves the buffer", bench.clear(), 1);
    }

    private static String spreadText(int hits, int steps, char letter) {
        StringBuilder text = new StringBuilder();
        for (int i = 0; i < steps; i++) {
            if ((i * hits) % steps >= hits) {
                text.append('r');
            }
            text.append(letter);
        }
        return text.toString();
    }

    private static void textOf() {
        RhythmBench bench = Check.with("[q]2");
        CHECK.due("textOf 0", bench.textOf(0, 0), '[');
        CHECK.due("textOf 3", bench.textOf(0, 3), '2');
        CHECK.due("textOf 4", bench.textOf(0, 4), RhythmBench.NONE);
        CHECK.due("textOf far", bench.textOf(0, Integer.MAX_VALUE), RhythmBench.NONE);
        CHECK.due("textOf -1", bench.textOf(0, -1), RhythmBench.BAD);
        CHECK.due("textOf least", bench.textOf(0, Integer.MIN_VALUE), RhythmBench.BAD);
        CHECK.due("textOf part 4", bench.textOf(4, 0), RhythmBench.BAD);
        CHECK.due("textOf part -1", bench.textOf(-1, 9), RhythmBench.BAD);
        Check.read(bench, 0, "h");
        CHECK.due("textOf behind a shorter text", bench.textOf(0, 1), RhythmBench.NONE);
    }

    private static void unfolded() {
        String[] texts = {"q|{3:2eee}rh..", "[q]2", "[q|/1:h/2:w]3", "[q/2:h/2:w]2", "[/13:q/24:h|]5", "[]9", "^q~[{3:2ss~s}/9:t]2|",
            "[q/1:]2", "[q/1:{5:4q}/2:rs.]2[h]2", "[q/99:h]9"};
        String[] due = {"q|{3:2eee}rh..", "qq", "q|hq|wq|", "qqh", "qh|qh|", "", "^q~{3:2ss~s}{3:2ss~s}|",
            "qq", "q{5:4q}qrs.hh", "qqqqqqqqqh"};
        for (int k = 0; k < texts.length; k++) {
            CHECK.dueText("unfolded " + texts[k], Check.unfolded(Check.with(texts[k]), 0), due[k]);
        }
        RhythmBench bench = Check.with("[q]2");
        CHECK.due("unfolded behind the end", bench.unfolded(0, 2), RhythmBench.NONE);
        CHECK.due("unfolded far", bench.unfolded(0, Integer.MAX_VALUE), RhythmBench.NONE);
        CHECK.due("unfolded -1", bench.unfolded(0, -1), RhythmBench.BAD);
        CHECK.due("unfolded part 4", bench.unfolded(4, 0), RhythmBench.BAD);
        CHECK.due("unfolded part -1", bench.unfolded(-1, 0), RhythmBench.BAD);
    }
}
