/** Promises 17 to 20: bars, bar, wrongBar, syncopation. */
public final class BarsTest {
    private static final Check CHECK = new Check();

    public static void main(String[] args) {
        bars();
        bar();
        wrongBar();
        syncopation();
        CHECK.end();
    }

    private static void bars() {
        CHECK.due("bars of nothing", new RhythmBench().bars(0), 1);
        CHECK.due("bars without lines", Check.with("qqq").bars(0), 1);
        CHECK.due("bars with lines", Check.with("q|q|").bars(0), 3);
        CHECK.due("bars of lines", Check.with("|").bars(0), 2);
        CHECK.due("bars of a repeat", Check.with("[w|/2:|]3").bars(0), 5);
        CHECK.due("bars of part 4", new RhythmBench().bars(4), RhythmBench.BAD);
        CHECK.due("bars of part -1", new RhythmBench().bars(-1), RhythmBench.BAD);
    }

    private static void dueBar(RhythmBench bench, int bar, long numerator, long denominator) {
        CHECK.dueFraction("bar " + bar, bench.bar(0, bar, 0), bench.bar(0, bar, 1), numerator, denominator);
    }

    private static void bar() {
        RhythmBench bench = Check.with("|q.rt|{3:2qq}[h~|]2");
        dueBar(bench, 0, 0, 1);
        dueBar(bench, 1, 13, 32);
        dueBar(bench, 2, 5, 6);
        dueBar(bench, 3, 1, 2);
        dueBar(bench, 4, 0, 1);
        int[][] wrong = {{0, 5, 0}, {0, -1, 0}, {4, 0, 0}, {-1, 0, 0}, {0, 0, 2}, {0, 0, -1}, {0, Integer.MAX_VALUE, 0}};
        for (int[] a : wrong) {
            CHECK.due("bar of wrong arguments", bench.bar(a[0], a[1], a[2]), RhythmBench.BAD);
        }
        CHECK.due("no bar 0 is missing", new RhythmBench().bar(0, 0, 1), 1);
        Check.read(bench, 0, "[" + "|".repeat(97) + "]9");
        dueBar(bench, 873, 0, 1);
        CHECK.due("behind the last bar", bench.bar(0, 874, 0), RhythmBench.BAD);
        Check.read(bench, 0, "q|q|q|q|q|q");
        dueBar(bench, 5, 1, 4);
    }

    private static void dueWrongBar(String text, int beats, int value, int due) {
        RhythmBench bench = Check.with(text);
        bench.setMeter(beats, value);
        CHECK.due("wrongBar " + text + " in " + beats + "/" + value, bench.wrongBar(0), due);
    }

    private static void wrongBar() {
        dueWrongBar("", 4, 4, RhythmBench.NONE);
        dueWrongBar("w|hh|", 4, 4, RhythmBench.NONE);
        dueWrongBar("w|hh", 4, 4, RhythmBench.NONE);
        dueWrongBar("w|h|", 4, 4, 1);
        dueWrongBar("w|h", 4, 4, 1);
        dueWrongBar("w||", 4, 4, 1);
        dueWrongBar("|", 4, 4, 0);
        dueWrongBar("|w", 4, 4, 0);
        dueWrongBar("{3:2qqq}rh|h.", 8, 8, 1);
        dueWrongBar("h.|{3:2qqq}q|{7:6eeeeeee}", 6, 8, RhythmBench.NONE);
        dueWrongBar("s|t", 1, 16, 1);
        dueWrongBar("[www|]2", 3, 1, RhythmBench.NONE);
        CHECK.due("wrongBar of part 4", new RhythmBench().wrongBar(4), RhythmBench.BAD);
        CHECK.due("wrongBar of part -1", new RhythmBench().wrongBar(-1), RhythmBench.BAD);
    }

    private static void syncopation() {
        CHECK.due("syncopation of nothing", new RhythmBench().syncopation(0), 0);
        CHECK.due("syncopation of beats", Check.with("qqqq|qqqq").syncopation(0), 0);
        RhythmBench bench = Check.with("eqqqe");
        CHECK.due("syncopation between beats", bench.syncopation(0), 4);
        bench.setMeter(2, 4);
        CHECK.due("syncopation in 2/4", bench.syncopation(0), 4);
        bench.setMeter(1, 8);
        CHECK.due("syncopation in 1/8", bench.syncopation(0), 0);
        CHECK.due("syncopation of part 4", bench.syncopation(4), RhythmBench.BAD);
        CHECK.due("syncopation of part -1", bench.syncopation(-1), RhythmBench.BAD);
    }
}
