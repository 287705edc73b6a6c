import java.util.function.Supplier;
import java.util.function.ToLongFunction;

/** How long an object serves, and what the description says under HISTORY and ERRORS; it counts for every promise. */
final class SentencesOfHistory extends Sentences {
    private static final String WHERE = "Description";
    private static final String LONG = "[" + "q".repeat(90) + "]9";
    private static final String LONGEST = "[{2:9{2:9" + "w..".repeat(28) + "}}]9w";

    SentencesOfHistory(Check check, Document document) {
        super(check, document);
    }

    @Override
    void test() {
        calls512();
        constants();
        fiveStates();
        actsAdd();
        undoRestores();
        errorsChangeNothing();
        firstErrorIsReturned();
    }

    private void calls512() {
        says("What it is", "An object is used for at most 512 calls after it has been made; what later calls answer is free.");
        RhythmBench acts = new RhythmBench();
        int previous = 404;
        for (int call = 1; call <= 512; call++) {
            int beats = 1 + call % 16;
            due("act " + call, acts.setMeter(beats, 8), previous);
            previous = 100 * beats + 8;
        }
        RhythmBench mixed = new RhythmBench();
        for (int call = 1; call <= 511; call += 7) {
            due("type " + call, mixed.type('q'), 1);
            due("type " + call, mixed.type('~'), 2);
            due("type " + call, mixed.type('h'), 3);
            due("read " + call, mixed.read(call % 4), 1);
            due("length " + call, mixed.length(call % 4, 0), 3);
            due("undo " + call, mixed.undo(), 0);
            due("undo " + call, mixed.undo(), NONE);
        }
        due("the call 512", mixed.clear(), 0);
        RhythmBench typed = new RhythmBench();
        for (int call = 1; call <= 511; call++) {
            due("type " + call, typed.type('q'), call <= 100 ? call : FULL);
        }
        due("the call 512", typed.read(3), 100);
    }

    private void constants() {
        says(WHERE, "The constants: - `BAD = -1`: An argument is not allowed, or there is no such thing.");
        due("BAD", RhythmBench.BAD, -1);
        says(WHERE, "`STATE = -2`: The call is not possible now.");
        due("STATE", RhythmBench.STATE, -2);
        says(WHERE, "`FULL = -3`: There is no room, or a text is too long.");
        due("FULL", RhythmBench.FULL, -3);
        says(WHERE, "`NONE = -9`: There is none.");
        due("NONE", RhythmBench.NONE, -9);
    }

    private void fiveStates() {
        says(WHERE, "A history of at most 5 states is kept: texts of parts, meter and swing (not the buffer).");
        RhythmBench bench = new RhythmBench();
        for (int k = 1; k <= 5; k++) {
            bench.setSwing(k, 9);
        }
        for (int left = 4; left >= 0; left--) {
            due("undo of five acts", bench.undo(), left);
        }
        due("nothing is left", bench.undo(), NONE);
        due("the swing is the first one", bench.setSwing(2, 2), 11);
        RhythmBench all = bench("q", "h", "w");
        all.setMeter(7, 8);
        all.setSwing(3, 2);
        long print = all.fingerprint();
        Check.read(all, 0, "e");
        Check.read(all, 2, "s");
        all.setMeter(5, 16);
        all.setSwing(7, 9);
        Check.type(all, "qqq");
        for (int left = 4; left > 0; left--) {
            due("undo", all.undo(), left);
        }
        due("texts, meter and swing are restored", all.fingerprint(), print);
        due("the buffer is not", all.type('q'), 4);
    }

    private void actsAdd() {
        says(WHERE, "Each call described as an act that returns no error adds the state before it; if there are 5 already, "
            + "the oldest one is dropped.");
        RhythmBench bench = new RhythmBench();
        for (int acts = 1; acts <= 16; acts++) {
            due("setMeter", bench.setMeter(acts, 16), acts == 1 ? 404 : 100 * (acts - 1) + 16);
            due("undo after act " + acts, bench.undo(), Math.min(acts, 5) - 1);
            bench.setMeter(acts, 16);
        }
        for (int left = 4; left >= 0; left--) {
            due("undo", bench.undo(), left);
        }
        due("the sixth act from the end is not undone", bench.undo(), NONE);
        due("the meter before the oldest state that is left", bench.setMeter(1, 1), 1116);
        // An act that leaves all as it was adds its state too.
        RhythmBench idle = new RhythmBench();
        idle.setMeter(4, 4);
        idle.setSwing(1, 1);
        idle.copy(0, 1);
        idle.read(2);
        due("undo after idle acts", idle.undo(), 3);
        // Questions, undo and the calls of the buffer add nothing.
        RhythmBench asked = bench("q");
        asked.type('q');
        asked.clear();
        asked.events(0);
        asked.wrongBar(0);
        asked.times();
        asked.meets(0, 0);
        asked.fingerprint();
        due("undo after questions", asked.undo(), 0);
        due("undo is no act", asked.undo(), NONE);
    }

    private void undoRestores() {
        says(WHERE, "undo() removes the latest one and restores it.");
        RhythmBench bench = bench("[q/1:e|]2", "h");
        bench.copy(0, 1);
        bench.spread(0, 3, 8, 's');
        due("undo the spread", bench.undo(), 3);
        dueText("text", Check.textOf(bench, 0), "[q/1:e|]2");
        dueText("unfolding", Check.unfolded(bench, 0), "qe|q");
        due("events", bench.events(0), 3);
        due("bars", bench.bars(0), 2);
        dueFraction("length", bench.length(0, 0), bench.length(0, 1), 5, 8);
        due("undo the copy", bench.undo(), 2);
        dueText("text of part 1", Check.textOf(bench, 1), "h");
        due("an act after undo", bench.setMeter(3, 4), 404);
        due("undo it", bench.undo(), 2);
        due("undo the second read", bench.undo(), 1);
        dueText("text of part 1", Check.textOf(bench, 1), "");
        due("undo the first read", bench.undo(), 0);
        due("all is as in a new object", bench.fingerprint(), new RhythmBench().fingerprint());
    }

    /** A workbench in use: texts in all parts, a meter, a swing, a history, and something in the buffer. */
    private static RhythmBench used(int acts, String typed) {
        RhythmBench bench = bench("q|q~e", "", LONGEST, "{3:2eee}");
        for (int k = 0; k < acts; k++) {
            bench.setMeter(3 + k, 8);
            bench.setSwing(2, 1 + k);
        }
        Check.type(bench, typed);
        return bench;
    }

    private void errorsChangeNothing() {
        says(WHERE, "A call that returns an error (a place at which a text is wrong, too) changes nothing.");
        for (String typed : new String[] {"", "h", "^q[q]2|"}) {
            for (int acts = 0; acts <= 1; acts++) {
                int kept = acts;
                writingErrors(() -> used(kept, typed));
                askingErrors(() -> used(kept, typed));
            }
        }
        dueError("type into a full buffer", () -> used(1, "q".repeat(100)), x -> x.type('h'), FULL);
        dueError("read wrong at 0", () -> used(1, "x"), x -> x.read(0), WRONG_AT_0);
        dueError("read wrong at 1", () -> used(0, "q?q"), x -> x.read(2), WRONG_AT_0 - 1);
        dueError("read wrong at its length", () -> used(1, "[q/1:h]"), x -> x.read(3), WRONG_AT_0 - 7);
        dueError("read a long text", () -> used(1, LONG), x -> x.read(0), FULL);
        dueError("read a long text to no part", () -> used(1, LONG), x -> x.read(4), BAD);
        nextTextAfterAWrongOne();
        dueError("undo without history", RhythmBench::new, RhythmBench::undo, NONE);
        dueError("undo without history, with a buffer", SentencesOfHistory::undone, RhythmBench::undo, NONE);
        dueError("leastGrid of none", () -> bench("", "t{9:8q}{5:4q}{7:6q}q"), x -> x.leastGrid(1), NONE);
        dueError("wrongBar of none", () -> bench("w"), x -> x.wrongBar(0), NONE);
    }

    /** What a wrong text leaves open does not matter to the next one. */
    private void nextTextAfterAWrongOne() {
        String[] wrong = {"^", "r", "{", "{3", "{3:", "{3:2", "{3:2q", "{3:2{3:2q", "[", "[q", "[{3:2q", "[q/", "[q/1", "[q/1:", "[q]", "q?",
            "[" + "q".repeat(99), "q.?"};
        RhythmBench bench = bench("h");
        for (String text : wrong) {
            due("read " + text, Check.read(bench, 0, text) <= WRONG_AT_0 ? 1 : 0, 1);
            due("a bar line and a repeat behind it", Check.read(bench, 0, "q|[q]2{2:3{2:3q}}"), 4);
            due("read " + text + " again", Check.read(bench, 0, text) <= WRONG_AT_0 ? 1 : 0, 1);
            due("a dot behind it", Check.read(bench, 0, "."), WRONG_AT_0);
            due("an empty tuplet behind it", Check.read(bench, 0, "{2:3}"), WRONG_AT_0 - 4);
        }
    }

    private static RhythmBench undone() {
        RhythmBench bench = bench("q", "h");
        bench.undo();
        bench.undo();
        Check.type(bench, "w");
        return bench;
    }

    private void dueError(String call, Supplier<RhythmBench> make, ToLongFunction<RhythmBench> error, long want) {
        RhythmBench bench = make.get();
        due(call, error.applyAsLong(bench), want);
        dueSame("after " + call, bench, make.get());
    }

    private void writingErrors(Supplier<RhythmBench> make) {
        dueError("type 31", make, x -> x.type(31), BAD);
        dueError("type 127", make, x -> x.type(127), BAD);
        dueError("read -1", make, x -> x.read(-1), BAD);
        dueError("read 4", make, x -> x.read(4), BAD);
        dueError("copy -1 0", make, x -> x.copy(-1, 0), BAD);
        dueError("copy 4 0", make, x -> x.copy(4, 0), BAD);
        dueError("copy 0 -1", make, x -> x.copy(0, -1), BAD);
        dueError("copy 0 4", make, x -> x.copy(0, 4), BAD);
        dueError("spread part -1", make, x -> x.spread(-1, 1, 2, 'q'), BAD);
        dueError("spread part 4", make, x -> x.spread(4, 1, 2, 'q'), BAD);
        dueError("spread hits -1", make, x -> x.spread(0, -1, 2, 'q'), BAD);
        dueError("spread hits 3 of 2", make, x -> x.spread(0, 3, 2, 'q'), BAD);
        dueError("spread steps 0", make, x -> x.spread(0, 0, 0, 'q'), BAD);
        dueError("spread steps 33", make, x -> x.spread(0, 1, 33, 'q'), BAD);
        dueError("spread letter", make, x -> x.spread(0, 1, 2, 'r'), BAD);
        dueError("setMeter 0 4", make, x -> x.setMeter(0, 4), BAD);
        dueError("setMeter 17 4", make, x -> x.setMeter(17, 4), BAD);
        dueError("setMeter 4 3", make, x -> x.setMeter(4, 3), BAD);
        dueError("setSwing 0 1", make, x -> x.setSwing(0, 1), BAD);
        dueError("setSwing 1 10", make, x -> x.setSwing(1, 10), BAD);
    }

    private void askingErrors(Supplier<RhythmBench> make) {
        dueError("textOf part 4", make, x -> x.textOf(4, 0), BAD);
        dueError("textOf behind the text", make, x -> x.textOf(1, 0), NONE);
        dueError("unfolded -1", make, x -> x.unfolded(0, -1), BAD);
        dueError("unfolded behind the text", make, x -> x.unfolded(0, 5), NONE);
        dueError("events 4", make, x -> x.events(4), BAD);
        dueError("length what 2", make, x -> x.length(0, 2), BAD);
        dueError("onset of no event", make, x -> x.onset(0, 2, 0), BAD);
        dueError("lasts of no event", make, x -> x.lasts(1, 0, 0), BAD);
        dueError("swung what -1", make, x -> x.swung(0, 0, -1), BAD);
        dueError("event what 5", make, x -> x.event(0, 0, 5), BAD);
        dueError("bars -1", make, x -> x.bars(-1), BAD);
        dueError("bar of no bar", make, x -> x.bar(0, 2, 0), BAD);
        dueError("wrongBar 4", make, x -> x.wrongBar(4), BAD);
        dueError("syncopation 4", make, x -> x.syncopation(4), BAD);
        dueError("offGrid 1001", make, x -> x.offGrid(0, 1001), BAD);
        dueError("leastGrid -1", make, x -> x.leastGrid(-1), BAD);
        dueError("time of none", make, x -> x.time(1200, 0), BAD);
        dueError("cycle what 2", make, x -> x.cycle(0, 3, 2), BAD);
        dueError("cycle of an empty part", make, x -> x.cycle(0, 1, 0), STATE);
        dueError("cycle too long", make, x -> x.cycle(2, 3, 0), FULL);
        dueError("meets of an empty part", make, x -> x.meets(1, 0), STATE);
        dueError("meets too long", make, x -> x.meets(3, 2), FULL);
        dueError("meets of no part", make, x -> x.meets(0, 4), BAD);
    }

    private void firstErrorIsReturned() {
        says(WHERE, "If several errors apply to a call, the one listed first is returned.");
        RhythmBench full = new RhythmBench();
        Check.type(full, "[" + "q".repeat(97) + "]9");
        due("type: BAD before FULL", full.type(31), BAD);
        due("type: BAD before FULL", full.type(127), BAD);
        due("type: FULL", full.type('q'), FULL);
        due("read: BAD before FULL", full.read(4), BAD);
        due("read: BAD before FULL", full.read(-1), BAD);
        due("read: FULL", full.read(3), FULL);
        RhythmBench wrong = new RhythmBench();
        Check.type(wrong, "[" + "q".repeat(90) + "]9?");
        due("read: BAD before wrong", wrong.read(4), BAD);
        due("read: wrong before FULL", wrong.read(0), WRONG_AT_0 - 93);
        wrong.clear();
        Check.type(wrong, "[" + "q".repeat(90) + "]9^");
        due("read: wrong at its length before FULL", wrong.read(0), WRONG_AT_0 - 94);
        RhythmBench bench = bench("q", "", LONGEST, "{7:6q}");
        due("textOf: BAD before NONE", bench.textOf(4, 1), BAD);
        due("unfolded: BAD before NONE", bench.unfolded(-1, 1), BAD);
        due("cycle: BAD before STATE", bench.cycle(0, 1, 2), BAD);
        due("cycle: BAD before STATE", bench.cycle(1, 4, 0), BAD);
        due("cycle: BAD before STATE", bench.cycle(-1, 1, 0), BAD);
        due("cycle: BAD before FULL", bench.cycle(2, 3, 2), BAD);
        due("cycle: STATE beside a long part", bench.cycle(2, 1, 0), STATE);
        due("cycle: STATE beside a long part", bench.cycle(1, 2, 1), STATE);
        due("meets: BAD before STATE", bench.meets(1, 4), BAD);
        due("meets: BAD before STATE", bench.meets(4, 1), BAD);
        due("meets: BAD before FULL", bench.meets(2, 4), BAD);
        due("meets: STATE beside a long part", bench.meets(1, 2), STATE);
    }
}
