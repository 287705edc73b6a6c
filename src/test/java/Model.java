import java.math.BigInteger;
import java.util.ArrayDeque;
import java.util.ArrayList;
import java.util.Arrays;
import java.util.Deque;
import java.util.HashSet;
import java.util.List;
import java.util.Set;
import java.util.TreeMap;
import java.util.regex.Matcher;
import java.util.regex.Pattern;

/**
 * The document once more, written in another way than the class: texts are judged by a regular
 * expression, times are fractions of big integers, and what can be counted is counted one by one.
 */
final class Model {
    private static final String LETTER = "[whqest]\\.{0,2}";
    private static final String SOUND = "\\^?" + LETTER + "~?|r" + LETTER;
    private static final String INNER = "\\{[2-9]:[2-9](?:" + SOUND + ")+\\}";
    private static final String TUPLET = "\\{[2-9]:[2-9](?:" + SOUND + "|" + INNER + ")+\\}";
    private static final String BODY = "(?:" + SOUND + "|" + TUPLET + "|\\|)*";
    private static final String REPEAT = "\\[" + BODY + "(?:/[1-9]+:" + BODY + ")*\\][2-9]";
    private static final Pattern TEXT = Pattern.compile("(?:" + SOUND + "|" + TUPLET + "|\\||" + REPEAT + ")*");
    private static final Pattern REPEATS = Pattern.compile("\\[([^/\\]]*)((?:/[^/\\]]*)*)\\](.)");
    private static final Pattern TOKEN = Pattern.compile("\\{(.):(.)|\\}|\\||(\\^|r)?([whqest])(\\.*)(~?)");
    private static final BigInteger TWO = BigInteger.TWO;

    /** A fraction in lowest terms. */
    static final class Fraction implements Comparable<Fraction> {
        final BigInteger up;
        final BigInteger down;

        Fraction(BigInteger up, BigInteger down) {
            BigInteger common = up.gcd(down);
            this.up = up.divide(common);
            this.down = down.divide(common);
        }

        static Fraction of(long up, long down) {
            return new Fraction(BigInteger.valueOf(up), BigInteger.valueOf(down));
        }

        Fraction plus(Fraction other) {
            return new Fraction(up.multiply(other.down).add(other.up.multiply(down)), down.multiply(other.down));
        }

        Fraction minus(Fraction other) {
            return plus(new Fraction(other.up.negate(), other.down));
        }

        Fraction times(Fraction other) {
            return new Fraction(up.multiply(other.up), down.multiply(other.down));
        }

        Fraction over(Fraction other) {
            return new Fraction(up.multiply(other.down), down.multiply(other.up));
        }

        boolean isWhole() {
            return down.equals(BigInteger.ONE);
        }

        BigInteger floor() {
            return up.divide(down);
        }

        boolean isZero() {
            return up.signum() == 0;
        }

        @Override
        public int compareTo(Fraction other) {
            return up.multiply(other.down).compareTo(other.up.multiply(down));
        }

        @Override
        public boolean equals(Object other) {
            return other instanceof Fraction f && compareTo(f) == 0;
        }

        @Override
        public int hashCode() {
            return 31 * up.hashCode() + down.hashCode();
        }

        long tell(int what) {
            return (what == 0 ? up : down).longValueExact();
        }
    }

    static final class Event {
        Fraction begin;
        Fraction lasts;
        int bar;
        int notes = 1;
        boolean accented;
    }

    /** What follows from a text. */
    static final class Played {
        final String unfolded;
        final List<Event> events = new ArrayList<>();
        final List<Fraction> bars = new ArrayList<>();
        Fraction length = Fraction.of(0, 1);
        int sounds = 0;

        Played(String text) {
            unfolded = unfold(text);
            bars.add(Fraction.of(0, 1));
            Deque<Fraction> scales = new ArrayDeque<>();
            scales.push(Fraction.of(1, 1));
            boolean tied = false;
            Matcher token = TOKEN.matcher(unfolded);
            while (token.find()) {
                if (token.group(1) != null) {
                    scales.push(scales.peek().times(Fraction.of(Long.parseLong(token.group(2)), Long.parseLong(token.group(1)))));
                } else if (token.group().equals("}")) {
                    scales.pop();
                } else if (token.group().equals("|")) {
                    bars.add(Fraction.of(0, 1));
                } else {
                    tied = sound(token, scales.peek(), tied);
                }
            }
        }

        private boolean sound(Matcher token, Fraction scale, boolean tied) {
            sounds++;
            Fraction base = Fraction.of(1, 1L << "whqest".indexOf(token.group(4)));
            Fraction lasts = base;
            for (int k = 1; k <= token.group(5).length(); k++) {
                lasts = lasts.plus(base.over(Fraction.of(1L << k, 1)));
            }
            lasts = lasts.times(scale);
            boolean rest = "r".equals(token.group(3));
            if (!rest && tied) {
                Event last = events.get(events.size() - 1);
                last.lasts = last.lasts.plus(lasts);
                last.notes++;
            } else if (!rest) {
                Event event = new Event();
                event.begin = length;
                event.lasts = lasts;
                event.bar = bars.size() - 1;
                event.accented = "^".equals(token.group(3));
                events.add(event);
            }
            length = length.plus(lasts);
            bars.set(bars.size() - 1, bars.get(bars.size() - 1).plus(lasts));
            return !rest && token.group(6).equals("~");
        }
    }

    private static String unfold(String text) {
        Matcher repeat = REPEATS.matcher(text);
        StringBuilder result = new StringBuilder();
        while (repeat.find()) {
            StringBuilder passes = new StringBuilder();
            for (int pass = 1; pass <= Integer.parseInt(repeat.group(3)); pass++) {
                passes.append(repeat.group(1)).append(ending(repeat.group(2), pass));
            }
            repeat.appendReplacement(result, Matcher.quoteReplacement(passes.toString()));
        }
        return repeat.appendTail(result).toString();
    }

    private static String ending(String endings, int pass) {
        for (String one : endings.split("/")) {
            int colon = one.indexOf(':');
            if (colon > 0 && one.substring(0, colon).contains(String.valueOf(pass))) {
                return one.substring(colon + 1);
            }
        }
        return "";
    }

    /** The place at which a text is wrong, or -1. */
    static int wrongPlace(String text) {
        for (int k = 0; k < text.length(); k++) {
            Matcher matcher = TEXT.matcher(text.substring(0, k + 1));
            if (!matcher.matches() && !matcher.hitEnd()) {
                return k;
            }
        }
        return TEXT.matcher(text).matches() ? -1 : text.length();
    }

    private record State(String[] texts, int beats, int value, int a, int b) {
    }

    private String buffer = "";
    private String[] texts = {"", "", "", ""};
    private final Played[] played = new Played[4];
    private int beats = 4;
    private int value = 4;
    private int a = 1;
    private int b = 1;
    private final Deque<State> history = new ArrayDeque<>();

    Model() {
        play();
    }

    private void play() {
        for (int part = 0; part < 4; part++) {
            played[part] = new Played(texts[part]);
        }
    }

    private void act() {
        history.addLast(new State(texts.clone(), beats, value, a, b));
        if (history.size() > 5) {
            history.removeFirst();
        }
    }

    private static boolean isPart(int part) {
        return part >= 0 && part <= 3;
    }

    int type(int c) {
        if (c < 32 || c > 126) {
            return -1;
        }
        if (buffer.length() == 100) {
            return -3;
        }
        buffer += (char) c;
        return buffer.length();
    }

    int clear() {
        int had = buffer.length();
        buffer = "";
        return had;
    }

    private int put(int part, String text) {
        act();
        texts[part] = text;
        played[part] = new Played(text);
        return played[part].events.size();
    }

    int read(int part) {
        if (!isPart(part)) {
            return -1;
        }
        int place = wrongPlace(buffer);
        if (place >= 0) {
            return -100 - place;
        }
        if (new Played(buffer).sounds > 300) {
            return -3;
        }
        int events = put(part, buffer);
        buffer = "";
        return events;
    }

    int copy(int from, int to) {
        return isPart(from) && isPart(to) ? put(to, texts[from]) : -1;
    }

    int spread(int part, int hits, int steps, int letter) {
        if (!isPart(part) || steps < 1 || steps > 32 || hits < 0 || hits > steps || letter < 'e' || letter > 'w'
                || "whqest".indexOf(letter) < 0) {
            return -1;
        }
        StringBuilder text = new StringBuilder();
        for (int i = 0; i < steps; i++) {
            text.append(i * hits % steps < hits ? "" : "r").append((char) letter);
        }
        return put(part, text.toString());
    }

    private static int at(String text, int k) {
        return k < text.length() ? text.charAt(k) : -9;
    }

    int textOf(int part, int k) {
        return isPart(part) && k >= 0 ? at(texts[part], k) : -1;
    }

    int unfolded(int part, int k) {
        return isPart(part) && k >= 0 ? at(played[part].unfolded, k) : -1;
    }

    int setMeter(int newBeats, int newValue) {
        if (newBeats < 1 || newBeats > 16 || !Arrays.asList(1, 2, 4, 8, 16).contains(newValue)) {
            return -1;
        }
        act();
        int previous = 100 * beats + value;
        beats = newBeats;
        value = newValue;
        return previous;
    }

    int setSwing(int newA, int newB) {
        if (newA < 1 || newA > 9 || newB < 1 || newB > 9) {
            return -1;
        }
        act();
        int previous = 10 * a + b;
        a = newA;
        b = newB;
        return previous;
    }

    int events(int part) {
        return isPart(part) ? played[part].events.size() : -1;
    }

    long length(int part, int what) {
        return isPart(part) && (what == 0 || what == 1) ? played[part].length.tell(what) : -1;
    }

    private Event find(int part, int i) {
        return isPart(part) && i >= 0 && i < played[part].events.size() ? played[part].events.get(i) : null;
    }

    long onset(int part, int i, int what) {
        Event event = find(part, i);
        return event == null || what < 0 || what > 1 ? -1 : event.begin.tell(what);
    }

    long lasts(int part, int i, int what) {
        Event event = find(part, i);
        return event == null || what < 0 || what > 1 ? -1 : event.lasts.tell(what);
    }

    long swung(int part, int i, int what) {
        Event event = find(part, i);
        if (event == null || what < 0 || what > 1) {
            return -1;
        }
        Fraction g = new Fraction(event.begin.times(Fraction.of(4, 1)).floor(), BigInteger.valueOf(4));
        Fraction x = event.begin.minus(g);
        Fraction eighth = Fraction.of(1, 8);
        Fraction moved = x.compareTo(eighth) < 0 ? x.times(Fraction.of(2L * a, a + b))
            : Fraction.of(a, 4L * (a + b)).plus(x.minus(eighth).times(Fraction.of(2L * b, a + b)));
        return g.plus(moved).tell(what);
    }

    private Fraction meter() {
        return Fraction.of(beats, value);
    }

    private int level(Fraction time) {
        for (int k = 0; k < 7; k++) {
            if (time.over(meter().over(new Fraction(TWO.pow(k), BigInteger.ONE))).isWhole()) {
                return k;
            }
        }
        return 7;
    }

    /** Looks at each time of a level below 7 that lies in the event. */
    private int syncopationOf(Event event) {
        Fraction step = meter().over(Fraction.of(64, 1));
        Fraction end = event.begin.plus(event.lasts);
        Fraction time = step.times(new Fraction(event.begin.over(step).floor(), BigInteger.ONE)).plus(step);
        int least = 7;
        for (; time.compareTo(end) < 0 && least > 0; time = time.plus(step)) {
            least = Math.min(least, level(time));
        }
        return Math.max(0, level(event.begin) - least);
    }

    int event(int part, int i, int what) {
        Event event = find(part, i);
        if (event == null || what < 0 || what > 4) {
            return -1;
        }
        int[] numbers = {event.accented ? 1 : 0, event.bar, event.notes, level(event.begin), syncopationOf(event)};
        return numbers[what];
    }

    int bars(int part) {
        return isPart(part) ? played[part].bars.size() : -1;
    }

    long bar(int part, int bar, int what) {
        return isPart(part) && bar >= 0 && bar < bars(part) && what >= 0 && what <= 1 ? played[part].bars.get(bar).tell(what) : -1;
    }

    int wrongBar(int part) {
        if (!isPart(part)) {
            return -1;
        }
        List<Fraction> bars = new ArrayList<>(played[part].bars);
        if (bars.get(bars.size() - 1).isZero()) {
            bars.remove(bars.size() - 1);
        }
        for (int k = 0; k < bars.size(); k++) {
            if (!bars.get(k).equals(meter())) {
                return k;
            }
        }
        return -9;
    }

    int syncopation(int part) {
        return isPart(part) ? played[part].events.stream().mapToInt(this::syncopationOf).sum() : -1;
    }

    private int off(int part, int grid) {
        return (int) played[part].events.stream().filter(event -> !event.begin.times(Fraction.of(grid, 1)).isWhole()).count();
    }

    int offGrid(int part, int grid) {
        return isPart(part) && grid >= 1 && grid <= 1000 ? off(part, grid) : -1;
    }

    int leastGrid(int part) {
        if (!isPart(part)) {
            return -1;
        }
        for (int grid = 1; grid <= 10000; grid++) {
            BigInteger asked = BigInteger.valueOf(grid);
            if (played[part].events.stream().allMatch(event -> asked.mod(event.begin.down).signum() == 0)) {
                return grid;
            }
        }
        return -9;
    }

    private TreeMap<Fraction, Integer> together() {
        TreeMap<Fraction, Integer> sets = new TreeMap<>();
        for (int part = 0; part < 4; part++) {
            for (Event event : played[part].events) {
                sets.merge(event.begin, 1 << part, (x, y) -> x | y);
            }
        }
        return sets;
    }

    int times() {
        return together().size();
    }

    long time(int i, int what) {
        List<Fraction> times = new ArrayList<>(together().keySet());
        if (i < 0 || i >= times.size() || what < 0 || what > 2) {
            return -1;
        }
        return what == 2 ? together().get(times.get(i)) : times.get(i).tell(what);
    }

    /** The least common multiple: of the numerators over the greatest common divisor of the denominators. */
    private Fraction cycle(int p, int q) {
        Fraction x = played[p].length;
        Fraction y = played[q].length;
        BigInteger up = x.up.divide(x.up.gcd(y.up)).multiply(y.up);
        return new Fraction(up, x.down.gcd(y.down));
    }

    private int loopError(int p, int q) {
        if (played[p].length.isZero() || played[q].length.isZero()) {
            return -2;
        }
        return cycle(p, q).compareTo(Fraction.of(1000, 1)) > 0 ? -3 : 0;
    }

    long cycle(int p, int q, int what) {
        if (!isPart(p) || !isPart(q) || what < 0 || what > 1) {
            return -1;
        }
        int error = loopError(p, q);
        return error != 0 ? error : cycle(p, q).tell(what);
    }

    private Set<Fraction> loop(int part, Fraction cycle) {
        Set<Fraction> times = new HashSet<>();
        for (Fraction start = Fraction.of(0, 1); start.compareTo(cycle) < 0; start = start.plus(played[part].length)) {
            for (Event event : played[part].events) {
                times.add(start.plus(event.begin));
            }
        }
        return times;
    }

    /** Whether meets() would have to go through too many times to be asked of the model. */
    boolean isHeavy(int p, int q) {
        if (!isPart(p) || !isPart(q) || loopError(p, q) != 0) {
            return false;
        }
        Fraction cycle = cycle(p, q);
        BigInteger steps = cycle.over(played[p].length).floor().multiply(BigInteger.valueOf(events(p) + 1))
            .add(cycle.over(played[q].length).floor().multiply(BigInteger.valueOf(events(q) + 1)));
        return steps.compareTo(BigInteger.valueOf(20000)) > 0;
    }

    int meets(int p, int q) {
        if (!isPart(p) || !isPart(q)) {
            return -1;
        }
        int error = loopError(p, q);
        if (error != 0) {
            return error;
        }
        Set<Fraction> both = loop(p, cycle(p, q));
        both.retainAll(loop(q, cycle(p, q)));
        return both.size();
    }

    int undo() {
        if (history.isEmpty()) {
            return -9;
        }
        State state = history.removeLast();
        texts = state.texts();
        beats = state.beats();
        value = state.value();
        a = state.a();
        b = state.b();
        play();
        return history.size();
    }

    long fingerprint() {
        long print = 71;
        for (String text : texts) {
            print = 31 * print + text.length();
            for (char c : text.toCharArray()) {
                print = 31 * print + c;
            }
        }
        for (int number : new int[] {beats, value, a, b}) {
            print = 31 * print + number;
        }
        return print;
    }
}
