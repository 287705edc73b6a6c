/** Promises 27 and 28: undo, fingerprint. */
public final class HistoryTest {
    private static final Check CHECK = new Check();

    public static void main(String[] args) {
        undoEachAct();
        undoKeepsFive();
        undoLeavesTheBuffer();
        errorsAreNoActs();
        fingerprint();
        CHECK.end();
    }

    private static void undoEachAct() {
        RhythmBench bench = new RhythmBench();
        CHECK.due("undo nothing", bench.undo(), RhythmBench.NONE);
        long[] prints = new long[6];
        prints[0] = bench.fingerprint();
        Check.read(bench, 0, "q|[e]2");
        prints[1] = bench.fingerprint();
        bench.copy(0, 1);
        prints[2] = bench.fingerprint();
        bench.spread(2, 3, 8, 'e');
        prints[3] = bench.fingerprint();
        bench.setMeter(3, 8);
        prints[4] = bench.fingerprint();
        bench.setSwing(3, 2);
        for (int left = 4; left >= 0; left--) {
            CHECK.due("undo", bench.undo(), left);
            CHECK.due("fingerprint after undo", bench.fingerprint(), prints[left]);
        }
        CHECK.due("undo too much", bench.undo(), RhythmBench.NONE);
        CHECK.due("undo too much changes nothing", bench.fingerprint(), prints[0]);
        CHECK.due("the events are undone", bench.events(0), 0);
        CHECK.due("the bars are undone", bench.bars(0), 1);
    }

    private static void undoKeepsFive() {
        RhythmBench bench = new RhythmBench();
        for (int beats = 1; beats <= 8; beats++) {
            bench.setMeter(beats, 8);
            bench.copy(0, 0);
        }
        for (int left = 4; left >= 0; left--) {
            CHECK.due("undo", bench.undo(), left);
        }
        CHECK.due("the oldest are dropped", bench.undo(), RhythmBench.NONE);
        CHECK.due("the meter that is left", bench.setMeter(1, 1), 608);
        Check.read(bench, 3, "[q/1:e]2s");
        Check.read(bench, 3, "h");
        bench.undo();
        CHECK.dueText("the text is restored", Check.textOf(bench, 3), "[q/1:e]2s");
        CHECK.dueText("the unfolding is restored", Check.unfolded(bench, 3), "qeqs");
        CHECK.due("the events are restored", bench.events(3), 4);
        CHECK.due("an act after an undo", bench.setSwing(9, 9), 11);
        CHECK.due("undo it", bench.undo(), 2);
    }

    private static void undoLeavesTheBuffer() {
        RhythmBench bench = new RhythmBench();
        Check.type(bench, "qq");
        bench.read(0);
        Check.type(bench, "h");
        CHECK.due("undo a read", bench.undo(), 0);
        CHECK.due("the buffer stays", bench.clear(), 1);
    }

    private static void errorsAreNoActs() {
        RhythmBench bench = new RhythmBench();
        bench.setMeter(0, 4);
        bench.setSwing(0, 1);
        bench.copy(0, 4);
        bench.spread(0, 2, 1, 'q');
        Check.read(bench, 0, "x");
        Check.read(bench, 4, "q");
        Check.read(bench, 0, "[" + "q".repeat(90) + "]9");
        bench.events(0);
        bench.times();
        CHECK.due("errors and questions are no acts", bench.undo(), RhythmBench.NONE);
    }

    private static long print(String[] texts, int... numbers) {
        long print = 71;
        for (String text : texts) {
            print = 31 * print + text.length();
            for (int k = 0; k < text.length(); k++) {
                print = 31 * print + text.charAt(k);
            }
        }
        for (int number : numbers) {
            print = 31 * print + number;
        }
        return print;
    }

    private static void fingerprint() {
        RhythmBench bench = new RhythmBench();
        String[] texts = {"", "", "", ""};
        CHECK.due("fingerprint of a new object", bench.fingerprint(), print(texts, 4, 4, 1, 1));
        texts[0] = "q~|[{3:2^s}/1:rt..]2";
        texts[3] = "h";
        Check.read(bench, 0, texts[0]);
        Check.read(bench, 3, texts[3]);
        bench.setMeter(7, 16);
        bench.setSwing(5, 3);
        long due = print(texts, 7, 16, 5, 3);
        CHECK.due("fingerprint", bench.fingerprint(), due);
        Check.type(bench, "qq");
        CHECK.due("fingerprint without the buffer", bench.fingerprint(), due);
    }
}
