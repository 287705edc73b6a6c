/** Promises 21 and 22: offGrid, leastGrid. */
public final class GridsTest {
    private static final Check CHECK = new Check();

    public static void main(String[] args) {
        offGrid();
        leastGrid();
        CHECK.end();
    }

    private static void offGrid() {
        RhythmBench bench = Check.with("q{3:2eee}eeree");
        // Its events begin at 0, 1/4, 1/3, 5/12, 1/2, 5/8 and 7/8.
        int[][] due = {{1, 6}, {2, 5}, {3, 5}, {4, 4}, {8, 2}, {12, 2}, {24, 0}, {1000, 2}, {999, 5}, {960, 0}, {5, 6}};
        for (int[] pair : due) {
            CHECK.due("offGrid " + pair[0], bench.offGrid(0, pair[0]), pair[1]);
        }
        CHECK.due("offGrid of a first event", Check.with("reqq").offGrid(0, 4), 2);
        CHECK.due("offGrid of a first event alone", Check.with("req").offGrid(0, 4), 1);
        CHECK.due("offGrid of nothing", bench.offGrid(1, 1), 0);
        int[][] wrong = {{0, 0}, {0, 1001}, {0, -1}, {4, 4}, {-1, 4}, {0, Integer.MAX_VALUE}, {0, Integer.MIN_VALUE}};
        for (int[] pair : wrong) {
            CHECK.due("offGrid " + pair[0] + " " + pair[1], bench.offGrid(pair[0], pair[1]), RhythmBench.BAD);
        }
    }

    private static void dueLeastGrid(String text, int due) {
        CHECK.due("leastGrid " + text, Check.with(text).leastGrid(0), due);
    }

    private static void leastGrid() {
        dueLeastGrid("", 1);
        dueLeastGrid("rqrh", 1);
        dueLeastGrid("www", 1);
        dueLeastGrid("s", 1);
        dueLeastGrid("sq", 16);
        dueLeastGrid("rsq", 16);
        dueLeastGrid("q{3:2eee}eeree", 24);
        dueLeastGrid("{5:4ee}{3:2ee}", 60);
        dueLeastGrid("{5:4qq}|{7:4ee}", 70);
        dueLeastGrid("{8:3{8:3t..}}q", 8192);
        dueLeastGrid("{9:2{8:3t..}}q", 1536);
        dueLeastGrid("e{7:6{7:6e}}{5:4{5:4e}}q", 9800);
        // The next grid that a text can need is 10080, which is too fine.
        dueLeastGrid("t{9:8q}{5:4q}{7:6q}q", RhythmBench.NONE);
        dueLeastGrid("{8:3{8:3t..}}{7:2{7:2t}}{5:2{5:2t}}{9:2{9:2t}}q", RhythmBench.NONE);
        dueLeastGrid("t{9:8q}{5:4q}{7:6q}rq", 1440);
        CHECK.due("leastGrid of part 4", new RhythmBench().leastGrid(4), RhythmBench.BAD);
        CHECK.due("leastGrid of part -1", new RhythmBench().leastGrid(-1), RhythmBench.BAD);
    }
}
