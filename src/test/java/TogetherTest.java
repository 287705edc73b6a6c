/** Promises 23 to 26: times, time, cycle, meets. */
public final class TogetherTest {
    private static final Check CHECK = new Check();

    public static void main(String[] args) {
        times();
        manyTimes();
        cycle();
        meets();
        CHECK.end();
    }

    private static RhythmBench bench(String... texts) {
        RhythmBench bench = new RhythmBench();
        for (int part = 0; part < texts.length; part++) {
            Check.read(bench, part, texts[part]);
        }
        return bench;
    }

    private static void times() {
        RhythmBench bench = bench("qqqq", "{3:2qqq}rh", "req.h", "");
        // 0: parts 0, 1; 1/8: part 2; 1/6: 1; 1/4: 0; 1/3: 1; 1/2: 0, 2; 3/4: 0.
        long[][] due = {{0, 1, 3}, {1, 8, 4}, {1, 6, 2}, {1, 4, 1}, {1, 3, 2}, {1, 2, 5}, {3, 4, 1}};
        CHECK.due("times", bench.times(), due.length);
        for (int i = 0; i < due.length; i++) {
            for (int what = 0; what < 3; what++) {
                CHECK.due("time " + i + " " + what, bench.time(i, what), due[i][what]);
            }
        }
        CHECK.due("times again", bench.times(), due.length);
        bench.copy(0, 3);
        CHECK.due("the set of three parts", bench.time(0, 2), 11);
        int[][] wrong = {{7, 0}, {-1, 0}, {0, 3}, {0, -1}, {Integer.MAX_VALUE, 0}, {Integer.MIN_VALUE, 2}, {7, 2}};
        for (int[] pair : wrong) {
            CHECK.due("time " + pair[0] + " " + pair[1], bench.time(pair[0], pair[1]), RhythmBench.BAD);
        }
        CHECK.due("times of nothing", new RhythmBench().times(), 0);
        CHECK.due("time of nothing", new RhythmBench().time(0, 2), RhythmBench.BAD);
        CHECK.due("times of rests", bench("rqrq", "|").times(), 0);
    }

    private static void manyTimes() {
        String fifty = "q".repeat(50);
        RhythmBench bench = bench("[" + fifty + "]6", "rt[" + fifty + "]5", "{3:2t}[" + fifty + "]5", "{5:4t}[" + fifty + "]5");
        CHECK.due("many times", bench.times(), 300 + 250 + 251 + 251 - 2);
        CHECK.due("the last of many times", bench.time(1049, 0), 299);
        CHECK.due("the last of many times", bench.time(1049, 1), 4);
        CHECK.due("behind the last of many times", bench.time(1050, 0), RhythmBench.BAD);
    }

    private static void dueCycle(String one, String other, long numerator, long denominator) {
        RhythmBench bench = bench(one, other);
        CHECK.dueFraction("cycle " + one + " " + other, bench.cycle(0, 1, 0), bench.cycle(0, 1, 1), numerator, denominator);
        CHECK.dueFraction("cycle " + other + " " + one, bench.cycle(1, 0, 0), bench.cycle(1, 0, 1), numerator, denominator);
    }

    private static void dueCycleError(String one, String other, long due) {
        RhythmBench bench = bench(one, other);
        for (int what = 0; what < 2; what++) {
            CHECK.due("cycle " + one + " " + other, bench.cycle(0, 1, what), due);
            CHECK.due("cycle " + other + " " + one, bench.cycle(1, 0, what), due);
        }
        CHECK.due("meets " + one + " " + other, bench.meets(0, 1), due);
        CHECK.due("cycle of wrong arguments", bench.cycle(0, 1, 2), RhythmBench.BAD);
        CHECK.due("cycle of no part", bench.cycle(0, 4, 0), RhythmBench.BAD);
        CHECK.due("meets of no part", bench.meets(0, 4), RhythmBench.BAD);
    }

    private static void cycle() {
        dueCycle("q", "q", 1, 4);
        dueCycle("q", "h.", 3, 4);
        dueCycle("q.", "q", 3, 4);
        dueCycle("{3:2q}", "q", 1, 2);
        dueCycle("{3:2q}", "{5:4q}", 1, 1);
        dueCycle("{3:2e}", "{5:4e}", 1, 2);
        dueCycle("{7:2{7:2t}}", "q", 1, 4);
        // 40 and 25 whole notes meet after 200; 125 * 8 is just not too long.
        dueCycle("[wwww]9wwww", "[wwwww]5", 200, 1);
        dueCycle("[" + "w".repeat(25) + "]5", "wwwwwwww", 1000, 1);
        dueCycleError("[" + "w".repeat(13) + "]7", "wwwwwwwwwww", RhythmBench.FULL);
        dueCycleError("[" + "w".repeat(25) + "]5", "wwwwwwwww", RhythmBench.FULL);
        dueCycleError("[" + "{2:9{2:9w..w..w..w..w..w..w..w..}}" + "]9{9:2{9:2t}}", "[{2:9{2:9w..w..w..w..w..w..w..w..}}]9{7:2{7:2t}}", RhythmBench.FULL);
        dueCycleError("[{2:9{2:9w..w..w..w..w..w..w..w..}}]9", "[{2:9{2:9w..w..w..w..w..w..w..w..}}]9", RhythmBench.FULL);
        // The numerator of this length over the finest denominator has no divisor in common with the other's.
        String fine = "{7:2{7:2t}}{5:2{5:2t}}{9:2{9:2t}}{8:3{8:3t..}}";
        dueCycleError(fine, "q" + fine, RhythmBench.FULL);
        dueCycleError("", "q", RhythmBench.STATE);
        dueCycleError("||", "", RhythmBench.STATE);
        dueCycleError("[{2:9{2:9w..w..w..w..w..w..w..w..}}]9", "[]2", RhythmBench.STATE);
        RhythmBench bench = bench("q", "h");
        int[][] wrong = {{-1, 0, 0}, {4, 0, 0}, {0, -1, 0}, {0, 4, 0}, {0, 1, -1}, {0, 1, 2}, {2, 3, 2}};
        for (int[] a : wrong) {
            CHECK.due("cycle of wrong arguments", bench.cycle(a[0], a[1], a[2]), RhythmBench.BAD);
        }
        CHECK.dueFraction("cycle of one part", bench.cycle(1, 1, 0), bench.cycle(1, 1, 1), 1, 2);
    }

    private static void dueMeets(String one, String other, int due) {
        RhythmBench bench = bench(one, other);
        CHECK.due("meets " + one + " " + other, bench.meets(0, 1), due);
        CHECK.due("meets " + other + " " + one, bench.meets(1, 0), due);
    }

    private static void meets() {
        dueMeets("q", "q", 1);
        dueMeets("qqqq", "qq", 4);
        dueMeets("qqq", "qq", 6);
        dueMeets("qrqq", "qrqrqrq", 2);
        dueMeets("{3:2qqq}", "qq", 1);
        dueMeets("rqq", "qrq", 0);
        dueMeets("rqrqq", "qq", 2);
        dueMeets("rq", "q", 0);
        dueMeets("{5:4qqqqq}", "{7:4qqqqqqq}", 1);
        dueMeets("[" + "q".repeat(50) + "]6", "[" + "q".repeat(50) + "]6", 300);
        RhythmBench bench = bench("q~qe", "rq");
        CHECK.due("meets of one part", bench.meets(0, 0), 2);
        CHECK.due("meets of rests", bench.meets(1, 1), 0);
        int[][] wrong = {{-1, 0}, {4, 0}, {0, -1}, {0, 4}, {2, 4}};
        for (int[] pair : wrong) {
            CHECK.due("meets of wrong arguments", bench.meets(pair[0], pair[1]), RhythmBench.BAD);
        }
        CHECK.due("meets of an empty part", bench.meets(0, 2), RhythmBench.STATE);
    }
}
