/** Promises 9 and 10: setMeter, setSwing. */
public final class MeterSwingTest {
    private static final Check CHECK = new Check();

    public static void main(String[] args) {
        setMeter();
        setSwing();
        CHECK.end();
    }

    private static void setMeter() {
        RhythmBench bench = new RhythmBench();
        int previous = 404;
        int[] values = {1, 2, 4, 8, 16};
        for (int beats = 1; beats <= 16; beats++) {
            for (int value : values) {
                CHECK.due("setMeter " + beats + " " + value, bench.setMeter(beats, value), previous);
                previous = 100 * beats + value;
            }
        }
        int[][] wrong = {{0, 4}, {17, 4}, {-1, 4}, {4, 0}, {4, 3}, {4, 5}, {4, 12}, {4, 32}, {4, -4}, {0, 3},
            {Integer.MAX_VALUE, 4}, {4, Integer.MIN_VALUE}};
        for (int[] pair : wrong) {
            CHECK.due("setMeter " + pair[0] + " " + pair[1], bench.setMeter(pair[0], pair[1]), RhythmBench.BAD);
        }
        CHECK.due("wrong meters change nothing", bench.setMeter(3, 4), previous);
        CHECK.due("setMeter is an act", bench.undo(), 4);
        CHECK.due("the meter is restored", bench.setMeter(3, 4), previous);
    }

    private static void setSwing() {
        RhythmBench bench = new RhythmBench();
        int previous = 11;
        for (int a = 1; a <= 9; a++) {
            for (int b = 1; b <= 9; b++) {
                CHECK.due("setSwing " + a + " " + b, bench.setSwing(a, b), previous);
                previous = 10 * a + b;
            }
        }
        int[][] wrong = {{0, 1}, {1, 0}, {10, 1}, {1, 10}, {-1, 1}, {1, -1}, {Integer.MAX_VALUE, 1}, {1, Integer.MIN_VALUE}};
        for (int[] pair : wrong) {
            CHECK.due("setSwing " + pair[0] + " " + pair[1], bench.setSwing(pair[0], pair[1]), RhythmBench.BAD);
        }
        CHECK.due("wrong swings change nothing", bench.setSwing(2, 1), previous);
        CHECK.due("setSwing is an act", bench.undo(), 4);
        CHECK.due("the swing is restored", bench.setSwing(2, 1), previous);
    }
}
