/** Tests that name the promise and the sentence of the document to which their answers are due. */
abstract class Sentences {
    static final int BAD = RhythmBench.BAD;
    static final int STATE = RhythmBench.STATE;
    static final int FULL = RhythmBench.FULL;
    static final int NONE = RhythmBench.NONE;
    static final int WRONG_AT_0 = -100;
    static final String LETTERS = "whqest";
    /** Numbers at and behind the edges of the parts, and the farthest ones. */
    static final int[] NO_PARTS = {-1, 4, 5, Integer.MIN_VALUE, Integer.MAX_VALUE};
    static final int[] NO_SIDES = {-1, 2, Integer.MIN_VALUE, Integer.MAX_VALUE};

    private final Check check;
    private final Document document;

    Sentences(Check check, Document document) {
        this.check = check;
        this.document = document;
    }

    abstract void test();

    final void says(String promise, String words) {
        check.says(promise, words);
        if (document != null && !document.names(promise, words)) {
            check.fault("the document does not say this there");
        }
    }

    final void due(String call, long got, long want) {
        check.due(call, got, want);
    }

    final void dueText(String call, String got, String want) {
        check.dueText(call, got, want);
    }

    final void dueFraction(String call, long up, long down, long wantUp, long wantDown) {
        check.dueFraction(call, up, down, wantUp, wantDown);
    }

    /** A workbench whose first parts have these texts. */
    static RhythmBench bench(String... texts) {
        RhythmBench bench = new RhythmBench();
        for (int part = 0; part < texts.length; part++) {
            int answer = Check.read(bench, part, texts[part]);
            if (answer < 0) {
                throw new IllegalStateException("the test's text '" + texts[part] + "' was refused: " + answer);
            }
        }
        return bench;
    }

    final void dueRead(String text, long want) {
        due("read " + text, Check.read(new RhythmBench(), 0, text), want);
    }

    final void dueWrong(String text, int place) {
        dueRead(text, WRONG_AT_0 - place);
    }

    final void dueUnfolded(String text, String want) {
        dueText("unfolded " + text, Check.unfolded(bench(text), 0), want);
    }

    final void dueLength(String text, long up, long down) {
        RhythmBench bench = bench(text);
        dueFraction("length " + text, bench.length(0, 0), bench.length(0, 1), up, down);
    }

    final void dueOnset(RhythmBench bench, int i, long up, long down) {
        dueFraction("onset " + i, bench.onset(0, i, 0), bench.onset(0, i, 1), up, down);
    }

    final void dueLasts(RhythmBench bench, int i, long up, long down) {
        dueFraction("lasts " + i, bench.lasts(0, i, 0), bench.lasts(0, i, 1), up, down);
    }

    final void dueSwung(RhythmBench bench, int i, long up, long down) {
        dueFraction("swung " + i, bench.swung(0, i, 0), bench.swung(0, i, 1), up, down);
    }

    final void dueBar(RhythmBench bench, int bar, long up, long down) {
        dueFraction("bar " + bar, bench.bar(0, bar, 0), bench.bar(0, bar, 1), up, down);
    }

    final void dueCycle(RhythmBench bench, int p, int q, long up, long down) {
        dueFraction("cycle " + p + " " + q, bench.cycle(p, q, 0), bench.cycle(p, q, 1), up, down);
    }

    /** Whether two workbenches cannot be told apart: by their parts, their buffers and their histories. */
    final void dueSame(String call, RhythmBench got, RhythmBench want) {
        due(call + ": fingerprint", got.fingerprint(), want.fingerprint());
        for (int part = 0; part < 4; part++) {
            dueText(call + ": unfolded", Check.unfolded(got, part), Check.unfolded(want, part));
            due(call + ": events", got.events(part), want.events(part));
            due(call + ": bars", got.bars(part), want.bars(part));
            due(call + ": syncopation", got.syncopation(part), want.syncopation(part));
            due(call + ": swung", got.swung(part, 1, 1), want.swung(part, 1, 1));
        }
        due(call + ": type", got.type('|'), want.type('|'));
        due(call + ": read", got.read(3), want.read(3));
        dueText(call + ": text read", Check.textOf(got, 3), Check.textOf(want, 3));
        due(call + ": clear", got.clear(), want.clear());
        for (int k = 0; k < 6; k++) {
            due(call + ": undo", got.undo(), want.undo());
            due(call + ": fingerprint after undo", got.fingerprint(), want.fingerprint());
        }
    }

    /** Whether the latest call was an act: undoing it leaves so many states, and the state before it. */
    final void dueAct(RhythmBench bench, int left, long printBefore) {
        due("undo", bench.undo(), left);
        due("fingerprint after undo", bench.fingerprint(), printBefore);
    }
}
