import java.util.Random;

/** Random runs of calls, all promises mixed, whose answers are compared with those of the model. */
public final class ModelTest {
    private static final Check CHECK = new Check();
    private static final int RUNS = 400;
    private static final int CALLS = 512;

    private final RhythmBench bench = new RhythmBench();
    private final Model model = new Model();
    private final Random random;
    private final String name;
    private int calls = 0;

    private ModelTest(int run, long seed) {
        random = new Random(seed);
        name = "run " + run + " ";
    }

    public static void main(String[] args) {
        int runs = args.length > 0 ? Integer.parseInt(args[0]) : RUNS;
        long seed = args.length > 1 ? Long.parseLong(args[1]) : 0;
        for (int run = 0; run < runs; run++) {
            new ModelTest(run, seed + run).go();
        }
        CHECK.end();
    }

    private void go() {
        while (calls < CALLS) {
            switch (random.nextInt(12)) {
                case 0, 1 -> write();
                case 2 -> act();
                case 3 -> history();
                default -> ask();
            }
        }
    }

    private void due(String call, long got, long want) {
        calls++;
        CHECK.due(name + call, got, want);
    }

    private int pick(int from, int to) {
        return from + random.nextInt(to - from + 1);
    }

    /** Mostly a number in the range, now and then one at or behind its edges. */
    private int near(int from, int to) {
        switch (random.nextInt(12)) {
            case 0:
                return from - 1;
            case 1:
                return to + 1;
            case 2:
                return random.nextInt(8) == 0 ? random.nextInt() : to;
            default:
                return to < from ? from : pick(from, to);
        }
    }

    private void write() {
        due("clear", bench.clear(), model.clear());
        String text = random.nextInt(3) == 0 ? broken(text()) : text();
        for (int k = 0; k < text.length() && calls < CALLS; k++) {
            int code = text.charAt(k);
            due("type " + code, bench.type(code), model.type(code));
        }
        int part = near(0, 3);
        due("read " + part + " " + text, bench.read(part), model.read(part));
    }

    private String oneOf(String signs) {
        return String.valueOf(signs.charAt(random.nextInt(signs.length())));
    }

    private String sound() {
        String dots = random.nextInt(4) == 0 ? ".".repeat(pick(1, 2)) : "";
        String letter = oneOf(random.nextBoolean() ? "qes" : "whqest") + dots;
        if (random.nextInt(4) == 0) {
            return "r" + letter;
        }
        return (random.nextInt(4) == 0 ? "^" : "") + letter + (random.nextInt(4) == 0 ? "~" : "");
    }

    private String tuplet(int depth) {
        StringBuilder text = new StringBuilder("{" + pick(2, 9) + ":" + pick(2, 9));
        int items = pick(1, 4);
        for (int k = 0; k < items; k++) {
            text.append(depth < 2 && random.nextInt(4) == 0 ? tuplet(depth + 1) : sound());
        }
        return text + "}";
    }

    private String body(int most) {
        StringBuilder text = new StringBuilder();
        int items = pick(0, most);
        for (int k = 0; k < items; k++) {
            int kind = random.nextInt(10);
            text.append(kind == 0 ? tuplet(1) : kind < 3 ? "|" : sound());
        }
        return text.toString();
    }

    private String repeat() {
        StringBuilder text = new StringBuilder("[" + body(random.nextInt(4) == 0 ? 30 : 4));
        int endings = pick(0, 3);
        for (int k = 0; k < endings; k++) {
            text.append('/');
            int digits = pick(1, 3);
            for (int j = 0; j < digits; j++) {
                text.append(random.nextInt(4) == 0 ? pick(1, 9) : pick(1, 3));
            }
            text.append(':').append(body(3));
        }
        return text + "]" + (random.nextInt(3) == 0 ? pick(2, 9) : pick(2, 3));
    }

    private String text() {
        StringBuilder text = new StringBuilder();
        int pieces = pick(0, 4);
        for (int k = 0; k < pieces; k++) {
            text.append(random.nextInt(3) == 0 ? repeat() : body(5));
        }
        return text.length() > 100 && random.nextInt(4) > 0 ? text.substring(0, 100) : text.toString();
    }

    /** Takes a sign away, puts one in, or cuts the text off. */
    private String broken(String text) {
        int place = random.nextInt(text.length() + 1);
        String head = text.substring(0, place);
        String tail = text.substring(place);
        switch (random.nextInt(4)) {
            case 0:
                return head;
            case 1:
                return tail.isEmpty() ? head : head + tail.substring(1);
            case 2:
                return head + (char) pick(32, 126) + tail;
            default:
                return head + oneOf("whqest^r.~{}[]/|:0123456789") + tail;
        }
    }

    private void act() {
        int part = near(0, 3);
        switch (random.nextInt(4)) {
            case 0:
                int to = near(0, 3);
                due("copy " + part + " " + to, bench.copy(part, to), model.copy(part, to));
                break;
            case 1:
                int steps = near(1, 32);
                int hits = near(0, steps);
                int letter = oneOf(random.nextInt(8) == 0 ? "rxWzQ~" : "whqest").charAt(0);
                due("spread " + part + " " + hits + " " + steps + " " + letter,
                    bench.spread(part, hits, steps, letter), model.spread(part, hits, steps, letter));
                break;
            case 2:
                int beats = near(1, 16);
                int value = random.nextInt(4) == 0 ? near(1, 16) : 1 << pick(0, 4);
                due("setMeter " + beats + " " + value, bench.setMeter(beats, value), model.setMeter(beats, value));
                break;
            default:
                int a = near(1, 9);
                int b = near(1, 9);
                due("setSwing " + a + " " + b, bench.setSwing(a, b), model.setSwing(a, b));
        }
    }

    private void history() {
        if (random.nextBoolean()) {
            due("undo", bench.undo(), model.undo());
        }
        due("fingerprint", bench.fingerprint(), model.fingerprint());
    }

    private void ask() {
        int part = near(0, 3);
        switch (random.nextInt(4)) {
            case 0 -> askText(part);
            case 1 -> askEvents(part, near(0, model.events(part) - 1), near(0, 1));
            case 2 -> askBarsAndGrids(part);
            default -> askTogether(part, near(0, 3), near(0, 1));
        }
    }

    private void askText(int part) {
        int k = near(0, 40);
        due("textOf " + part + " " + k, bench.textOf(part, k), model.textOf(part, k));
        due("unfolded " + part + " " + k, bench.unfolded(part, k), model.unfolded(part, k));
        int far = near(0, 900);
        due("unfolded " + part + " " + far, bench.unfolded(part, far), model.unfolded(part, far));
    }

    private void askEvents(int part, int i, int what) {
        String asked = " " + part + " " + i + " " + what;
        due("events" + asked, bench.events(part), model.events(part));
        due("length" + asked, bench.length(part, what), model.length(part, what));
        due("onset" + asked, bench.onset(part, i, what), model.onset(part, i, what));
        due("lasts" + asked, bench.lasts(part, i, what), model.lasts(part, i, what));
        due("swung" + asked, bench.swung(part, i, what), model.swung(part, i, what));
        int number = near(0, 4);
        due("event " + part + " " + i + " " + number, bench.event(part, i, number), model.event(part, i, number));
    }

    private void askBarsAndGrids(int part) {
        int bar = near(0, model.bars(part) - 1);
        int what = near(0, 1);
        int grid = random.nextBoolean() ? near(1, 48) : near(1, 1000);
        due("bars " + part, bench.bars(part), model.bars(part));
        due("bar " + part + " " + bar + " " + what, bench.bar(part, bar, what), model.bar(part, bar, what));
        due("wrongBar " + part, bench.wrongBar(part), model.wrongBar(part));
        due("syncopation " + part, bench.syncopation(part), model.syncopation(part));
        due("offGrid " + part + " " + grid, bench.offGrid(part, grid), model.offGrid(part, grid));
        due("leastGrid " + part, bench.leastGrid(part), model.leastGrid(part));
    }

    private void askTogether(int p, int q, int what) {
        int i = near(0, model.times() - 1);
        int side = near(0, 2);
        due("times", bench.times(), model.times());
        due("time " + i + " " + side, bench.time(i, side), model.time(i, side));
        due("cycle " + p + " " + q + " " + what, bench.cycle(p, q, what), model.cycle(p, q, what));
        if (!model.isHeavy(p, q)) {
            due("meets " + p + " " + q, bench.meets(p, q), model.meets(p, q));
        }
    }
}
