/** Promises 11 to 16: events, length, onset, lasts, swung, event. */
public final class EventsTest {
    private static final Check CHECK = new Check();

    public static void main(String[] args) {
        letters();
        events();
        length();
        onset();
        ties();
        swung();
        textAfterText();
        event();
        levels();
        syncopations();
        wrongArguments();
        CHECK.end();
    }

    private static void dueLength(String text, long numerator, long denominator) {
        RhythmBench bench = Check.with(text);
        CHECK.dueFraction("length " + text, bench.length(0, 0), bench.length(0, 1), numerator, denominator);
    }

    private static void dueOnset(RhythmBench bench, int i, long numerator, long denominator) {
        CHECK.dueFraction("onset " + i, bench.onset(0, i, 0), bench.onset(0, i, 1), numerator, denominator);
    }

    private static void dueLasts(RhythmBench bench, int i, long numerator, long denominator) {
        CHECK.dueFraction("lasts " + i, bench.lasts(0, i, 0), bench.lasts(0, i, 1), numerator, denominator);
    }

    private static void dueSwung(RhythmBench bench, int i, long numerator, long denominator) {
        CHECK.dueFraction("swung " + i, bench.swung(0, i, 0), bench.swung(0, i, 1), numerator, denominator);
    }

    private static void letters() {
        String letters = "whqest";
        for (int k = 0; k < letters.length(); k++) {
            String letter = letters.substring(k, k + 1);
            long halves = 1L << k;
            dueLength(letter, 1, halves);
            dueLength("r" + letter, 1, halves);
            dueLength("^" + letter + ".~", 3, 2 * halves);
            dueLength(letter + "..", 7, 4 * halves);
            dueLength("r" + letter + "..", 7, 4 * halves);
        }
    }

    private static void events() {
        CHECK.due("events of notes and rests", Check.with("qrqe|rh").events(0), 2);
        CHECK.due("events of a repeat", Check.with("[qe/2:s]3").events(0), 7);
        CHECK.due("events of an empty part", new RhythmBench().events(3), 0);
        CHECK.due("events of part 4", new RhythmBench().events(4), RhythmBench.BAD);
        CHECK.due("events of part -1", new RhythmBench().events(-1), RhythmBench.BAD);
    }

    private static void length() {
        dueLength("", 0, 1);
        dueLength("|||", 0, 1);
        dueLength("{3:2eee}", 1, 4);
        dueLength("{3:2q}", 1, 6);
        dueLength("{9:2{9:2t..}}", 7, 2592);
        dueLength("{8:3{8:5t..}}", 105, 8192);
        dueLength("{7:2{7:2t}}{5:2{5:2t}}{9:2{9:2t}}{8:3{8:3t..}}", 13643431, 812851200);
        dueLength("{2:9{2:9w..}}", 567, 16);
        dueLength("[{2:9{2:9" + "w..".repeat(25) + "}}]9", 127575, 16);
        dueLength("{3:2q{5:4q}}q", 11, 20);
        RhythmBench bench = Check.with("w");
        CHECK.due("length of part 4", bench.length(4, 0), RhythmBench.BAD);
        CHECK.due("length of part -1", bench.length(-1, 1), RhythmBench.BAD);
        CHECK.due("length what 2", bench.length(0, 2), RhythmBench.BAD);
        CHECK.due("length what -1", bench.length(0, -1), RhythmBench.BAD);
    }

    private static void onset() {
        RhythmBench bench = Check.with("rq{3:2e^ere}|[s]2{3:2{5:4qq}}h");
        dueOnset(bench, 0, 1, 4);
        dueOnset(bench, 1, 1, 3);
        dueOnset(bench, 2, 1, 2);
        dueOnset(bench, 3, 9, 16);
        dueOnset(bench, 4, 5, 8);
        dueOnset(bench, 5, 91, 120);
        dueOnset(bench, 6, 107, 120);
        dueLasts(bench, 0, 1, 12);
        dueLasts(bench, 4, 2, 15);
        dueLasts(bench, 6, 1, 2);
        dueOnset(Check.with("q"), 0, 0, 1);
    }

    private static void ties() {
        RhythmBench across = Check.with("^q~|{3:2e~e~}|[s~]2^h");
        CHECK.due("ties across bar lines, tuplets and repeats", across.events(0), 1);
        dueLasts(across, 0, 25, 24);
        CHECK.due("the notes of one event", across.event(0, 0, 2), 6);
        CHECK.due("its accent", across.event(0, 0, 0), 1);
        RhythmBench rest = Check.with("q~rqq~|");
        CHECK.due("a rest ends a tie", rest.events(0), 2);
        dueLasts(rest, 0, 1, 4);
        dueOnset(rest, 1, 1, 2);
        dueLasts(rest, 1, 1, 4);
        RhythmBench accent = Check.with("q~^qh");
        CHECK.due("only the first note accents", accent.event(0, 0, 0), 0);
        CHECK.due("the untied note follows", accent.events(0), 2);
        RhythmBench ending = Check.with("[q~/1:rq/2:q]2");
        CHECK.due("a tie into endings", ending.events(0), 2);
        CHECK.due("joined in the second pass", ending.event(0, 1, 2), 2);
        CHECK.due("not joined in the first pass", ending.event(0, 0, 2), 1);
    }

    private static void swung() {
        RhythmBench bench = Check.with("eeqtttttttt{3:2eee}");
        for (int i = 0; i < bench.events(0); i++) {
            dueSwung(bench, i, bench.onset(0, i, 0), bench.onset(0, i, 1));
        }
        bench.setSwing(2, 1);
        dueSwung(bench, 0, 0, 1);
        dueSwung(bench, 1, 1, 6);
        dueSwung(bench, 2, 1, 4);
        dueSwung(bench, 4, 13, 24);
        dueSwung(bench, 7, 2, 3);
        dueSwung(bench, 8, 11, 16);
        dueSwung(bench, 12, 31, 36);
        dueSwung(bench, 13, 17, 18);
        bench.setSwing(1, 9);
        dueSwung(bench, 1, 1, 40);
        dueSwung(bench, 8, 93, 160);
        RhythmBench fine = Check.with("{7:2{7:2t}}{9:2{9:2t}}{5:2{5:2t}}t");
        fine.setSwing(8, 9);
        // 1/392 + 1/648 + 1/200 = 7219/793800 stands before the last note; it becomes 16/17 of this.
        dueSwung(fine, 3, 14438, 1686825);
    }

    /** Nothing of an earlier text is left when a part gets another one. */
    private static void textAfterText() {
        RhythmBench bench = Check.with("q|q|{3:2^ee~}");
        Check.read(bench, 0, "re|{3:2s.~q}");
        CHECK.due("events after another text", bench.events(0), 1);
        dueOnset(bench, 0, 1, 8);
        dueLasts(bench, 0, 11, 48);
        CHECK.dueFraction("length", bench.length(0, 0), bench.length(0, 1), 17, 48);
        CHECK.dueFraction("bar 0", bench.bar(0, 0, 0), bench.bar(0, 0, 1), 1, 8);
        CHECK.dueFraction("bar 1", bench.bar(0, 1, 0), bench.bar(0, 1, 1), 11, 48);
        CHECK.due("the bar of its event", bench.event(0, 0, 1), 1);
        CHECK.due("no accent is left", bench.event(0, 0, 0), 0);
    }

    private static void event() {
        RhythmBench bench = Check.with("||^q~q|e|[s|]2");
        int[][] due = {{1, 2, 2}, {0, 3, 1}, {0, 4, 1}, {0, 5, 1}};
        CHECK.due("events", bench.events(0), due.length);
        for (int i = 0; i < due.length; i++) {
            for (int what = 0; what < 3; what++) {
                CHECK.due("event " + i + " " + what, bench.event(0, i, what), due[i][what]);
            }
        }
    }

    private static void levels() {
        RhythmBench bench = Check.with("hqeststt..t..|{3:2w}w");
        int[] due = {0, 1, 2, 3, 4, 5, 5, 4, 7, 6, 7};
        CHECK.due("events", bench.events(0), due.length);
        for (int i = 0; i < due.length; i++) {
            CHECK.due("level " + i, bench.event(0, i, 3), due[i]);
        }
        bench.setMeter(3, 4);
        int[] three = {0, 7, 0, 7, 2, 7, 3, 7, 7, 4, 7};
        for (int i = 0; i < three.length; i++) {
            CHECK.due("level in 3/4 " + i, bench.event(0, i, 3), three[i]);
        }
        bench.setMeter(1, 16);
        CHECK.due("level in 1/16", bench.event(0, 5, 3), 1);
        // 1/64 of the meter 2/1 is 1/32, the last level that counts.
        bench.setMeter(2, 1);
        CHECK.due("level 6", bench.event(0, 5, 3), 6);
        bench.setMeter(4, 1);
        CHECK.due("level 7", bench.event(0, 5, 3), 7);
    }

    private static void dueSyncopations(String text, int... due) {
        RhythmBench bench = Check.with(text);
        int sum = 0;
        for (int i = 0; i < due.length; i++) {
            CHECK.due("syncopation " + text + " " + i, bench.event(0, i, 4), due[i]);
            sum += due[i];
        }
        CHECK.due("events " + text, bench.events(0), due.length);
        CHECK.due("syncopation " + text, bench.syncopation(0), sum);
    }

    private static void syncopations() {
        dueSyncopations("qqqq", 0, 0, 0, 0);
        dueSyncopations("qhq", 0, 1, 0);
        dueSyncopations("eqqqe", 0, 1, 2, 1, 0);
        dueSyncopations("hqh", 0, 0, 2);
        dueSyncopations("hqh~h", 0, 0, 2);
        dueSyncopations("ww", 0, 0);
        // The end itself is not before the end: the note that ends at 1 passes nothing of level 0.
        dueSyncopations("rhrqre^e", 0);
        dueSyncopations("rh.q~|q", 2);
        // The second note begins at 7/128, of level 7, and 1/16, of level 4, lies in it.
        dueSyncopations("t..t..", 0, 3);
        dueSyncopations("{3:2qqq}", 0, 5, 4);
        dueSyncopations("{9:2{9:2tttt}}", 0, 0, 0, 0);
        // From 1/96 to 1/48 there is 1/64, of level 6.
        dueSyncopations("{6:2tt}", 0, 1);
    }

    private static void wrongArguments() {
        RhythmBench bench = Check.with("qq");
        int[][] wrong = {{-1, 0, 0}, {4, 0, 0}, {0, -1, 0}, {0, 2, 0}, {0, 0, -1}, {0, 0, 2}, {1, 0, 0},
            {0, Integer.MAX_VALUE, 1}, {0, Integer.MIN_VALUE, 1}, {Integer.MAX_VALUE, 0, 1}, {0, 0, Integer.MIN_VALUE}};
        for (int[] a : wrong) {
            CHECK.due("onset", bench.onset(a[0], a[1], a[2]), RhythmBench.BAD);
            CHECK.due("lasts", bench.lasts(a[0], a[1], a[2]), RhythmBench.BAD);
            CHECK.due("swung", bench.swung(a[0], a[1], a[2]), RhythmBench.BAD);
            int eventWhat = a[2] == 2 ? 5 : a[2];
            CHECK.due("event", bench.event(a[0], a[1], eventWhat), RhythmBench.BAD);
        }
    }
}
