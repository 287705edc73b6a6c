import java.util.function.IntToLongFunction;

/** The promises 11 to 22: what asks a part for its events, bars and grids. */
final class SentencesOfAsking extends Sentences {
    private static final int LEAST = Integer.MIN_VALUE;
    private static final int GREATEST = Integer.MAX_VALUE;

    SentencesOfAsking(Check check, Document document) {
        super(check, document);
    }

    @Override
    void test() {
        events();
        length();
        onset();
        lasts();
        swung();
        event();
        eventNumbers();
        bars();
        bar();
        wrongBar();
        syncopation();
        offGrid();
        leastGrid();
    }

    /** Four parts with one to four events, each a whole note longer than the one before. */
    private static RhythmBench fourParts() {
        return bench("w|", "ww|", "www|", "wwww|");
    }

    /** Asks each of the four parts, whose answers go up by one. */
    private void dueParts(String call, IntToLongFunction ask, long first) {
        for (int part = 0; part < 4; part++) {
            due(call + " of part " + part, ask.applyAsLong(part), first + part);
        }
    }

    private void dueNoParts(String call, IntToLongFunction ask) {
        for (int part : NO_PARTS) {
            due(call + " of part " + part, ask.applyAsLong(part), BAD);
        }
    }

    private void events() {
        String where = "Promise 11";
        says(where, "Returns the number of events of a part.");
        due("none", new RhythmBench().events(0), 0);
        due("rests alone", bench("rqrh").events(0), 0);
        due("joined notes", bench("q~q|re[s]3").events(0), 4);
        due("the most", bench("[" + "q".repeat(60) + "]5").events(0), 300);
        RhythmBench bench = fourParts();
        says(where, "`part`: 0 to 3");
        dueParts("events", bench::events, 1);
        says(where, "Returns the number of events; BAD if there is no such part.");
        dueNoParts("events", bench::events);
        bench.undo();
        due("after undo", bench.events(3), 0);
    }

    private void length() {
        String where = "Promise 12";
        says(where, "Returns the length of a part.");
        dueLength("", 0, 1);
        dueLength("|", 0, 1);
        dueLength("rw..", 7, 4);
        dueLength("q{3:2q}|[e~]3", 19, 24);
        RhythmBench bench = fourParts();
        says(where, "`part`: 0 to 3");
        dueParts("length", part -> bench.length(part, 0), 1);
        says(where, "`what`: 0 or 1");
        due("what 0", bench("q.").length(0, 0), 3);
        due("what 1", bench("q.").length(0, 1), 8);
        says(where, "Returns the length; BAD if there is no such part, or what is not 0 or 1.");
        dueFraction("length", bench.length(3, 0), bench.length(3, 1), 4, 1);
        dueNoParts("length", part -> bench.length(part, 0));
        dueNoParts("length", part -> bench.length(part, 1));
        for (int what : NO_SIDES) {
            due("what " + what, bench.length(0, what), BAD);
        }
    }

    private void dueNoEvents(String call, IntToLongFunction ask) {
        for (int i : new int[] {-1, 2, 3, 300, LEAST, GREATEST}) {
            due(call + " of event " + i, ask.applyAsLong(i), BAD);
        }
    }

    private void onset() {
        String where = "Promise 13";
        says(where, "Returns the time at which an event begins.");
        RhythmBench bench = bench("rq.|{3:2qq}", "", "", "ree");
        dueOnset(bench, 0, 3, 8);
        dueOnset(bench, 1, 13, 24);
        dueOnset(bench("q"), 0, 0, 1);
        says(where, "`part`: 0 to 3");
        due("part 0", bench.onset(0, 0, 1), 8);
        due("part 3", bench.onset(3, 0, 0), 1);
        says(where, "`i`: the number of the event");
        due("the first", bench.onset(0, 0, 0), 3);
        due("the last", bench.onset(0, 1, 0), 13);
        says(where, "`what`: 0 or 1");
        due("what 0", bench.onset(0, 1, 0), 13);
        due("what 1", bench.onset(0, 1, 1), 24);
        says(where, "Returns the time; BAD if there is no such part or event, or what is not 0 or 1.");
        dueNoParts("onset", part -> bench.onset(part, 0, 0));
        dueNoEvents("onset", i -> bench.onset(0, i, 0));
        due("event of a part without events", bench.onset(1, 0, 1), BAD);
        for (int what : NO_SIDES) {
            due("what " + what, bench.onset(0, 0, what), BAD);
        }
        Check.read(bench, 0, "q");
        due("where an event was", bench.onset(0, 1, 0), BAD);
    }

    private void lasts() {
        String where = "Promise 14";
        says(where, "Returns how long an event lasts.");
        RhythmBench bench = bench("q..|{3:2rqq~}|{5:4{7:6e}}", "", "", "w.");
        dueLasts(bench, 0, 7, 16);
        // 1/6 and 1/8 * 24/35.
        dueLasts(bench, 1, 53, 210);
        says(where, "`part`: 0 to 3");
        due("part 0", bench.lasts(0, 0, 1), 16);
        due("part 3", bench.lasts(3, 0, 0), 3);
        says(where, "`i`: the number of the event");
        due("the first", bench.lasts(0, 0, 0), 7);
        due("the last", bench.lasts(0, 1, 0), 53);
        says(where, "`what`: 0 or 1");
        due("what 0", bench.lasts(3, 0, 0), 3);
        due("what 1", bench.lasts(3, 0, 1), 2);
        says(where, "Returns the length; BAD as onset().");
        dueNoParts("lasts", part -> bench.lasts(part, 0, 0));
        dueNoEvents("lasts", i -> bench.lasts(0, i, 0));
        due("event of a part without events", bench.lasts(1, 0, 1), BAD);
        for (int what : NO_SIDES) {
            due("what " + what, bench.lasts(0, 0, what), BAD);
        }
    }

    private void swung() {
        String where = "Promise 15";
        says(where, "Returns the swung time at which an event begins.");
        RhythmBench bench = bench("ee", "", "", "reee");
        bench.setSwing(3, 1);
        dueSwung(bench, 0, 0, 1);
        dueSwung(bench, 1, 3, 16);
        says(where, "`part`: 0 to 3");
        due("part 0", bench.swung(0, 1, 0), 3);
        due("part 3", bench.swung(3, 1, 1), 4);
        says(where, "`i`: the number of the event");
        due("the first", bench.swung(3, 0, 1), 16);
        due("the last", bench.swung(3, 1, 0), 1);
        says(where, "`what`: 0 or 1");
        due("what 0", bench.swung(0, 1, 0), 3);
        due("what 1", bench.swung(0, 1, 1), 16);
        says(where, "Returns the time; BAD as onset().");
        dueNoParts("swung", part -> bench.swung(part, 0, 0));
        dueNoEvents("swung", i -> bench.swung(0, i, 0));
        due("event of a part without events", bench.swung(1, 0, 1), BAD);
        for (int what : NO_SIDES) {
            due("what " + what, bench.swung(0, 0, what), BAD);
        }
    }

    private void event() {
        String where = "Promise 16";
        says(where, "Returns a number of an event.");
        RhythmBench bench = bench("q|^q~q", "", "", "^wrw|^w");
        due("accent", bench.event(0, 1, 0), 1);
        says(where, "`part`: 0 to 3");
        due("part 0", bench.event(0, 0, 0), 0);
        due("part 3", bench.event(3, 0, 0), 1);
        says(where, "`i`: the number of the event");
        due("the first", bench.event(3, 0, 1), 0);
        due("the last", bench.event(3, 1, 1), 1);
        says(where, "Returns that number; BAD if there is no such part or event, or what is not in its range.");
        for (int what = 0; what <= 4; what++) {
            int asked = what;
            dueNoParts("event", part -> bench.event(part, 0, asked));
            dueNoEvents("event", i -> bench.event(0, i, asked));
            due("event of a part without events", bench.event(1, 0, what), BAD);
        }
        for (int what : new int[] {-1, 5, LEAST, GREATEST}) {
            due("what " + what, bench.event(0, 0, what), BAD);
        }
    }

    private void eventNumbers() {
        says("Promise 16", "`what`: 0: 1 if it is accented, otherwise 0; 1: the bar in which its first note is; 2: the number of its notes; "
            + "3: the level of its beginning; 4: its syncopation");
        RhythmBench bench = bench("||q^h~|q~|q|re^e.~^q");
        // Its events begin at 0, 1/4 and 11/8; the second one lasts over 1/2 and 1, the third one over 3/2.
        int[][] due = {{0, 2, 1, 0, 0}, {1, 2, 3, 2, 2}, {1, 5, 2, 3, 2}};
        due("events", bench.events(0), due.length);
        for (int i = 0; i < due.length; i++) {
            for (int what = 0; what <= 4; what++) {
                due("event " + i + " " + what, bench.event(0, i, what), due[i][what]);
            }
        }
        RhythmBench far = bench("[" + "|".repeat(94) + "^q~]9");
        due("the bar of the first of its notes", far.event(0, 0, 1), 94);
        due("its notes", far.event(0, 0, 2), 9);
        due("a bar far behind", bench("[" + "|".repeat(93) + "/9:q]9").event(0, 0, 1), 837);
    }

    private void bars() {
        String where = "Promise 17";
        says(where, "Returns the number of bars of a part.");
        due("of an empty text", new RhythmBench().bars(0), 1);
        due("of one line", bench("|").bars(0), 2);
        due("of two passes", bench("q|[w|]2").bars(0), 4);
        due("the most", bench("[" + "|".repeat(97) + "]9").bars(0), 874);
        says(where, "`part`: 0 to 3");
        RhythmBench bench = bench("", "|", "||", "|||");
        dueParts("bars", bench::bars, 1);
        says(where, "Returns the number of bars; BAD if there is no such part.");
        dueNoParts("bars", bench::bars);
    }

    private void bar() {
        String where = "Promise 18";
        says(where, "Returns the length of a bar.");
        RhythmBench bench = bench("rq.{3:2q}||[h|]2", "", "", "|w.");
        dueBar(bench, 0, 13, 24);
        dueBar(bench, 1, 0, 1);
        dueBar(bench, 2, 1, 2);
        dueBar(bench, 3, 1, 2);
        dueBar(bench, 4, 0, 1);
        says(where, "`part`: 0 to 3");
        due("part 0", bench.bar(0, 0, 0), 13);
        due("part 3", bench.bar(3, 1, 0), 3);
        says(where, "`bar`: the number of the bar");
        due("the first", bench.bar(3, 0, 0), 0);
        due("the last", bench.bar(3, 1, 0), 3);
        due("the last of 874", bench("[" + "|".repeat(97) + "]9").bar(0, 873, 1), 1);
        says(where, "`what`: 0 or 1");
        due("what 0", bench.bar(3, 1, 0), 3);
        due("what 1", bench.bar(3, 1, 1), 2);
        says(where, "Returns the sum of the lengths of its notes and rests; BAD if there is no such part or bar, or what is not 0 or 1.");
        // A note that is tied over the bar line counts in its own bar.
        RhythmBench tied = bench("rhq~|h");
        dueBar(tied, 0, 3, 4);
        dueBar(tied, 1, 1, 2);
        dueNoParts("bar", part -> bench.bar(part, 0, 0));
        for (int bar : new int[] {-1, 5, 6, 901, LEAST, GREATEST}) {
            due("bar " + bar, bench.bar(0, bar, 0), BAD);
        }
        due("bar 1 of an empty text", bench.bar(1, 1, 0), BAD);
        for (int what : NO_SIDES) {
            due("what " + what, bench.bar(0, 0, what), BAD);
        }
    }

    private void wrongBar() {
        String where = "Promise 19";
        says(where, "Finds a bar that does not have the length of the meter.");
        dueWrongBar("w|h|w", 1);
        dueWrongBar("w|wt|w", 1);
        dueWrongBar("{9:8w}{9:2h}", NONE);
        dueWrongBar("h{3:2qqqe}|w", 0);
        says(where, "`part`: 0 to 3");
        RhythmBench bench = bench("h", "w|h", "w|w|h", "w|w|w|h");
        dueParts("wrongBar", bench::wrongBar, 0);
        says(where, "Returns the first such bar (a last bar that is empty does not count);");
        dueWrongBar("w|h|h|w", 1);
        dueWrongBar("w|w|", NONE);
        dueWrongBar("w|h|", 1);
        dueWrongBar("w||", 1);
        dueWrongBar("w||w", 1);
        dueWrongBar("|w", 0);
        dueWrongBar("|", 0);
        dueWrongBar("||", 0);
        dueWrongBar("", NONE);
        dueWrongBar("[]2", NONE);
        dueWrongBar("w|t", 1);
        dueWrongBar("w|{9:2{9:2rt}}", 1);
        dueWrongBar("[w|]9", NONE);
        dueWrongBar("[w|/9:h|]9", 9);
        says(where, "BAD if there is no such part;");
        dueNoParts("wrongBar", bench::wrongBar);
        says(where, "NONE if there is none.");
        dueWrongBar("w|hh|{3:2hhh}|rw", NONE);
        dueWrongBar("w", NONE);
    }

    private void dueWrongBar(String text, int want) {
        due("wrongBar of " + text, bench(text).wrongBar(0), want);
    }

    private void syncopation() {
        String where = "Promise 20";
        says(where, "Returns the sum of the syncopations of all events of a part.");
        due("eqqqe", bench("eqqqe").syncopation(0), 4);
        due("hqh", bench("hqh").syncopation(0), 2);
        due("among rests", bench("reqrq").syncopation(0), 1);
        due("many events", bench("{6:4q}[" + "h".repeat(49) + "]6").syncopation(0), syncopationOfHalves(294));
        says(where, "`part`: 0 to 3");
        RhythmBench bench = bench("q", "qh", "hqh", "eqqere");
        dueParts("syncopation", bench::syncopation, 0);
        says(where, "Returns the sum; BAD if there is no such part.");
        due("of an empty part", new RhythmBench().syncopation(0), 0);
        due("of beats", bench("qqqq|hh|w").syncopation(0), 0);
        dueNoParts("syncopation", bench::syncopation);
    }

    /** Halves that begin at 1/6, 2/3, 7/6 and so on, of level 7: over 1/2, of level 1, and over 1, of level 0, in turn. */
    private static int syncopationOfHalves(int count) {
        int sum = 0;
        for (int i = 0; i < count; i++) {
            sum += i % 2 == 0 ? 6 : 7;
        }
        return sum;
    }

    private void offGrid() {
        String where = "Promise 21";
        says(where, "Counts the events of a part that do not begin on a grid.");
        RhythmBench bench = bench("q{3:2eee}eeree", "req", "eqq", "eqqq");
        due("grid 4", bench.offGrid(0, 4), 4);
        due("a first event", bench.offGrid(1, 4), 1);
        says(where, "`part`: 0 to 3");
        due("part 0", bench.offGrid(0, 24), 0);
        for (int part = 1; part < 4; part++) {
            due("part " + part, bench.offGrid(part, 4), part);
        }
        says(where, "`grid`: 1 to 1000");
        due("grid 1", bench.offGrid(0, 1), 6);
        due("grid 1000", bench.offGrid(0, 1000), 2);
        due("grid 999", bench.offGrid(0, 999), 5);
        due("grid 0", bench.offGrid(0, 0), BAD);
        due("grid 1001", bench.offGrid(0, 1001), BAD);
        says(where, "Returns the number of events whose beginnings are no multiples of 1 / grid; BAD if there is no such part, "
            + "or grid is not in its range.");
        // They begin at 0, 1/4, 1/3, 5/12, 1/2, 5/8 and 7/8.
        int[][] due = {{1, 6}, {2, 5}, {3, 5}, {4, 4}, {5, 6}, {8, 2}, {12, 2}, {24, 0}, {48, 0}, {960, 0}};
        for (int[] pair : due) {
            due("grid " + pair[0], bench.offGrid(0, pair[0]), pair[1]);
        }
        due("no events", new RhythmBench().offGrid(0, 1), 0);
        due("0 is on each grid", bench("w").offGrid(0, 7), 0);
        due("1 is on each grid", bench("ww").offGrid(0, 7), 0);
        // Each of 234 notes lasts 567/16, so that each other one is off; the last note is 1/112 behind the grid.
        String longest = "[{2:9{2:9" + "w..".repeat(26) + "}}]9q{7:2t}q";
        due("far times", bench(longest).offGrid(0, 1000), 118);
        dueNoParts("offGrid", part -> bench.offGrid(part, 4));
        for (int grid : new int[] {0, 1001, -1, LEAST, GREATEST}) {
            due("grid " + grid, bench.offGrid(0, grid), BAD);
        }
    }

    private void leastGrid() {
        String where = "Promise 22";
        says(where, "Finds the coarsest grid of a part.");
        dueLeastGrid("sq", 16);
        dueLeastGrid("{3:2ee}{5:4ee}", 60);
        says(where, "`part`: 0 to 3");
        RhythmBench bench = bench("w", "hh", "{3:2hhh}", "q{2:3hh}");
        due("part 0", bench.leastGrid(0), 1);
        due("part 1", bench.leastGrid(1), 2);
        due("part 2", bench.leastGrid(2), 3);
        due("part 3", bench.leastGrid(3), 4);
        says(where, "Returns the least grid from 1 to 10000 on which all its events begin;");
        dueLeastGrid("", 1);
        dueLeastGrid("rt", 1);
        dueLeastGrid("t", 1);
        dueLeastGrid("www", 1);
        dueLeastGrid("rtw", 32);
        dueLeastGrid("qqq", 4);
        dueLeastGrid("rqq.q", 8);
        dueLeastGrid("{8:3{8:3t..}}q", 8192);
        // The finest grid up to 10000 that a text can need: 2^3 * 5^2 * 7^2.
        dueLeastGrid("e{7:6{7:6e}}{5:4{5:4e}}q", 9800);
        says(where, "BAD if there is no such part;");
        dueNoParts("leastGrid", bench::leastGrid);
        says(where, "NONE if there is none.");
        // The coarsest grid above 10000 that a text can need: 2^5 * 3^2 * 5 * 7.
        dueLeastGrid("t{9:8q}{5:4q}{7:6q}q", NONE);
        dueLeastGrid("t{9:8q}{5:4q}{7:6q}rq", 1440);
        dueLeastGrid("{7:2{7:2t}}{5:2{5:2t}}{9:2{9:2t}}{8:3{8:3t..}}q", NONE);
    }

    private void dueLeastGrid(String text, int want) {
        due("leastGrid of " + text, bench(text).leastGrid(0), want);
    }
}
