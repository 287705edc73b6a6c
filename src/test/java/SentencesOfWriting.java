/** The promises 1 to 10: what writes texts and tells them, meter and swing. */
final class SentencesOfWriting extends Sentences {
    SentencesOfWriting(Check check, Document document) {
        super(check, document);
    }

    @Override
    void test() {
        newObject();
        type();
        clear();
        readMakesTheText();
        readAnswers();
        copy();
        spreadMakesTheText();
        spreadArguments();
        textOf();
        unfolded();
        setMeter();
        setSwing();
    }

    private void newObject() {
        says("Promise 1", "Creates a workbench with empty parts.");
        RhythmBench bench = new RhythmBench();
        for (int part = 0; part < 4; part++) {
            due("textOf", bench.textOf(part, 0), NONE);
            due("unfolded", bench.unfolded(part, 0), NONE);
            due("events", bench.events(part), 0);
            due("bars", bench.bars(part), 1);
            due("length", bench.length(part, 0), 0);
            due("wrongBar", bench.wrongBar(part), NONE);
            due("syncopation", bench.syncopation(part), 0);
            due("leastGrid", bench.leastGrid(part), 1);
        }
        due("times", bench.times(), 0);
        due("undo", bench.undo(), NONE);
        due("clear", bench.clear(), 0);
        // What one workbench is told, another one does not know.
        Check.read(bench, 0, "q");
        bench.setMeter(3, 8);
        due("another one's events", new RhythmBench().events(0), 0);
        due("another one's meter", new RhythmBench().setMeter(1, 1), 404);
    }

    private void type() {
        String where = "Promise 2";
        says(where, "Appends a character to the buffer.");
        RhythmBench bench = new RhythmBench();
        Check.type(bench, "q~|h");
        bench.read(1);
        dueText("what was typed", Check.textOf(bench, 1), "q~|h");
        says(where, "`c`: its code, 32 to 126");
        due("type 32", bench.type(32), 1);
        due("type 126", bench.type(126), 2);
        says(where, "Returns the number of characters in the buffer;");
        bench.clear();
        for (int k = 1; k <= 100; k++) {
            due("type", bench.type('e'), k);
        }
        says(where, "BAD if c is not in its range;");
        RhythmBench few = new RhythmBench();
        for (int c : new int[] {31, 127, 0, -1, 128, 256 + 'q', 65536 + 'q', -65536 + 'q', Integer.MIN_VALUE, Integer.MAX_VALUE}) {
            due("type " + c, few.type(c), BAD);
            due("type " + c + " into a full buffer", bench.type(c), BAD);
        }
        due("nothing was appended", few.clear(), 0);
        says(where, "FULL if there are 100 characters.");
        due("type the character 101", bench.type('e'), FULL);
        due("type the character 101 again", bench.type('|'), FULL);
        due("read the 100", bench.read(0), 100);
        due("there is room again", bench.type('e'), 1);
    }

    private void clear() {
        says("Promise 3", "Empties the buffer.");
        RhythmBench bench = new RhythmBench();
        Check.type(bench, "[x");
        bench.clear();
        due("type after clear", bench.type('w'), 1);
        due("read after clear", bench.read(2), 1);
        dueText("text after clear", Check.textOf(bench, 2), "w");
        says("Promise 3", "Returns the number of characters that it had.");
        due("clear an empty buffer", bench.clear(), 0);
        bench.type(' ');
        due("clear one character", bench.clear(), 1);
        Check.type(bench, "q".repeat(101));
        due("clear a full buffer", bench.clear(), 100);
        due("clear again", bench.clear(), 0);
        dueText("the parts stay", Check.textOf(bench, 2), "w");
    }

    private void readMakesTheText() {
        String where = "Promise 4";
        says(where, "Makes the buffer the text of a part.");
        RhythmBench bench = bench("qqqq");
        Check.type(bench, "[h]2|");
        bench.read(0);
        dueText("text", Check.textOf(bench, 0), "[h]2|");
        Check.type(bench, "q".repeat(100));
        due("read a full buffer", bench.read(3), 100);
        dueText("text of 100 characters", Check.textOf(bench, 3), "q".repeat(100));
        due("read an empty buffer", bench.read(3), 0);
        dueText("empty text", Check.textOf(bench, 3), "");
        dueText("the other part", Check.textOf(bench, 0), "[h]2|");
        // Nothing of the text before is left.
        RhythmBench again = bench("w|ww|^w~|{3:2w~}");
        Check.read(again, 0, "re|{3:2q}|q|");
        due("events", again.events(0), 2);
        due("accent", again.event(0, 0, 0), 0);
        due("notes", again.event(0, 0, 2), 1);
        dueOnset(again, 0, 1, 8);
        dueLasts(again, 0, 1, 6);
        dueBar(again, 0, 1, 8);
        dueBar(again, 1, 1, 6);
        dueBar(again, 2, 1, 4);
        dueBar(again, 3, 0, 1);
        dueFraction("length", again.length(0, 0), again.length(0, 1), 13, 24);
        says(where, "The buffer is empty then.");
        Check.type(bench, "qq");
        bench.read(1);
        due("clear after read", bench.clear(), 0);
        due("type after read", bench.type('q'), 1);
        says(where, "This is an act.");
        long print = bench.fingerprint();
        bench.read(2);
        dueAct(bench, 4, print);
        due("undo does not bring the buffer back", bench.clear(), 0);
        RhythmBench empty = new RhythmBench();
        empty.read(0);
        due("read an empty text to an empty part is an act", empty.undo(), 0);
    }

    private void readAnswers() {
        String where = "Promise 4";
        says(where, "`part`: 0 to 3");
        for (int part = 0; part < 4; part++) {
            due("read " + part, Check.read(new RhythmBench(), part, "qq"), 2);
        }
        says(where, "Returns the number of events of the part;");
        dueRead("", 0);
        dueRead("rq", 0);
        dueRead("q~qrq^e", 2);
        dueRead("[q/1:e]3", 4);
        dueRead("[" + "q".repeat(60) + "]5", 300);
        says(where, "BAD if there is no such part;");
        for (int part : NO_PARTS) {
            due("read " + part, Check.read(new RhythmBench(), part, "q"), BAD);
            due("read nothing to " + part, new RhythmBench().read(part), BAD);
            due("read a wrong text to " + part, Check.read(new RhythmBench(), part, "?"), BAD);
        }
        says(where, "-100 minus the place at which the text is wrong;");
        dueRead("?", -100);
        dueRead("q?", -101);
        dueRead("q".repeat(99) + "?", -199);
        dueRead("q".repeat(99) + "^", -200);
        dueRead("[", -101);
        says(where, "FULL if it is too long.");
        dueRead("[" + "q".repeat(60) + "]5e", FULL);
        dueRead("[" + "rq".repeat(43) + "]7", FULL);
        dueRead("[" + "rq".repeat(43) + "]6" + "rq".repeat(5), 0);
        dueRead("[" + "q".repeat(97) + "]9", FULL);
    }

    private void copy() {
        String where = "Promise 5";
        says(where, "Copies the text of a part to another part. This is an act.");
        RhythmBench bench = bench("q|[e]2", "h");
        long print = bench.fingerprint();
        bench.copy(0, 1);
        dueText("the copy", Check.textOf(bench, 1), "q|[e]2");
        dueText("its unfolding", Check.unfolded(bench, 1), "q|ee");
        due("its bars", bench.bars(1), 2);
        dueText("the source", Check.textOf(bench, 0), "q|[e]2");
        dueAct(bench, 2, print);
        bench.copy(2, 0);
        dueText("the copy of an empty part", Check.textOf(bench, 0), "");
        dueAct(bench, 2, print);
        bench.copy(0, 1);
        Check.read(bench, 0, "w");
        dueText("the copy stays when the source changes", Check.textOf(bench, 1), "q|[e]2");
        Check.type(bench, "qq");
        bench.copy(1, 3);
        due("the buffer stays", bench.clear(), 2);
        long printBefore = bench.fingerprint();
        due("copy to itself", bench.copy(1, 1), 3);
        dueAct(bench, 4, printBefore);
        says(where, "`from`: 0 to 3");
        RhythmBench four = bench("w", "hh", "qqq", "eeee");
        for (int from = 0; from < 4; from++) {
            due("copy " + from + " 0", bench("w", "hh", "qqq", "eeee").copy(from, 0), from + 1);
        }
        says(where, "`to`: 0 to 3");
        for (int to = 0; to < 4; to++) {
            due("copy 2 " + to, four.copy(2, to), 3);
            due("events of " + to, four.events(to), 3);
        }
        says(where, "Returns the number of events;");
        due("copy nothing", new RhythmBench().copy(3, 2), 0);
        due("copy rests", bench("rqrq").copy(0, 3), 0);
        due("copy 300", bench("[" + "q".repeat(60) + "]5").copy(0, 3), 300);
        says(where, "BAD if there is no such part.");
        for (int part : NO_PARTS) {
            due("copy from " + part, four.copy(part, 0), BAD);
            due("copy to " + part, four.copy(0, part), BAD);
            due("copy from and to " + part, four.copy(part, part), BAD);
        }
    }

    private void spreadMakesTheText() {
        String where = "Promise 6";
        says(where, "Makes the text of a part a rhythm of some steps of equal length, some of them notes and the others rests: "
            + "step i (from 0) is a note if (i * hits) modulo steps is less than hits.");
        for (int steps = 1; steps <= 32; steps++) {
            for (int hits = 0; hits <= steps; hits++) {
                RhythmBench bench = new RhythmBench();
                bench.spread(0, hits, steps, 's');
                dueText("spread " + hits + " of " + steps, Check.textOf(bench, 0), spreadText(hits, steps));
            }
        }
        says(where, "The text consists of a letter or \"r\" and this letter for each step.");
        dueSpread(3, 8, 'e', "erereerereere");
        dueSpread(0, 1, 'w', "rw");
        dueSpread(1, 1, 't', "t");
        dueSpread(2, 5, 'q', "qrqrqqrq");
        dueSpread(0, 32, 'h', "rh".repeat(32));
        dueSpread(32, 32, 'h', "h".repeat(32));
        says(where, "This is an act.");
        RhythmBench bench = bench("q", "h");
        long print = bench.fingerprint();
        bench.spread(1, 5, 8, 'e');
        dueAct(bench, 2, print);
        Check.type(bench, "qq");
        bench.spread(1, 5, 8, 'e');
        due("the buffer stays", bench.clear(), 2);
    }

    /** The same steps, told by counting up instead of multiplying. */
    private static String spreadText(int hits, int steps) {
        StringBuilder text = new StringBuilder();
        int rest = 0;
        for (int i = 0; i < steps; i++) {
            text.append(rest < hits ? "s" : "rs");
            rest += hits;
            rest -= rest >= steps ? steps : 0;
        }
        return text.toString();
    }

    private void dueSpread(int hits, int steps, char letter, String want) {
        RhythmBench bench = bench("", "w|w");
        bench.spread(1, hits, steps, letter);
        dueText("spread " + hits + " of " + steps, Check.textOf(bench, 1), want);
    }

    private void spreadArguments() {
        String where = "Promise 6";
        says(where, "`part`: 0 to 3");
        for (int part = 0; part < 4; part++) {
            due("spread part " + part, new RhythmBench().spread(part, 1, 2, 'q'), 1);
        }
        says(where, "`hits`: 0 to steps");
        due("hits 0", new RhythmBench().spread(0, 0, 7, 'q'), 0);
        due("hits 7 of 7", new RhythmBench().spread(0, 7, 7, 'q'), 7);
        due("hits 8 of 7", new RhythmBench().spread(0, 8, 7, 'q'), BAD);
        due("hits -1", new RhythmBench().spread(0, -1, 7, 'q'), BAD);
        says(where, "`steps`: 1 to 32");
        due("steps 1", new RhythmBench().spread(0, 1, 1, 'q'), 1);
        due("steps 32", new RhythmBench().spread(0, 13, 32, 'q'), 13);
        due("steps 0", new RhythmBench().spread(0, 0, 0, 'q'), BAD);
        due("steps 33", new RhythmBench().spread(0, 13, 33, 'q'), BAD);
        says(where, "`letter`: the code of w, h, q, e, s or t");
        for (int c = -1; c <= 300; c++) {
            boolean isLetter = c >= 0 && LETTERS.indexOf(c) >= 0;
            due("letter " + c, new RhythmBench().spread(0, 2, 3, c), isLetter ? 2 : BAD);
        }
        says(where, "Returns the number of events; BAD if an argument is not as described.");
        due("spread 5 of 16", new RhythmBench().spread(2, 5, 16, 't'), 5);
        for (int part : NO_PARTS) {
            due("spread part " + part, new RhythmBench().spread(part, 1, 2, 'q'), BAD);
        }
        int min = Integer.MIN_VALUE;
        int max = Integer.MAX_VALUE;
        int[][] wrong = {{0, min, 2, 'q'}, {0, max, 2, 'q'}, {0, 0, min, 'q'}, {0, max, max, 'q'}, {0, 1, max, 'q'}, {0, -1, -1, 'q'},
            {0, 1, 2, min}, {0, 1, 2, max}, {0, 1, 2, 65536 + 'q'}, {0, 1, 2, -65536 + 'q'}};
        for (int[] a : wrong) {
            due("spread " + a[1] + " of " + a[2] + " " + a[3], new RhythmBench().spread(a[0], a[1], a[2], a[3]), BAD);
        }
    }

    private void textOf() {
        String where = "Promise 7";
        says(where, "Returns a character of the text of a part.");
        RhythmBench bench = bench("[q]2", "", "", "q".repeat(99) + "h");
        dueText("text", Check.textOf(bench, 0), "[q]2");
        says(where, "`part`: 0 to 3");
        due("part 0", bench.textOf(0, 0), '[');
        due("part 3", bench.textOf(3, 0), 'q');
        says(where, "`k`: its index, 0 or more");
        due("index 0", bench.textOf(0, 0), '[');
        due("index 3", bench.textOf(0, 3), '2');
        due("index 99", bench.textOf(3, 99), 'h');
        says(where, "Returns its code; BAD if there is no such part, or k is negative;");
        due("a code", bench.textOf(0, 1), 113);
        for (int part : NO_PARTS) {
            due("part " + part, bench.textOf(part, 0), BAD);
        }
        due("index -1", bench.textOf(0, -1), BAD);
        due("index -1 of an empty text", bench.textOf(1, -1), BAD);
        due("the least index", bench.textOf(0, Integer.MIN_VALUE), BAD);
        says(where, "NONE if the text is not so long.");
        due("index 4", bench.textOf(0, 4), NONE);
        due("index 100", bench.textOf(3, 100), NONE);
        due("index 0 of an empty text", bench.textOf(1, 0), NONE);
        due("the greatest index", bench.textOf(0, Integer.MAX_VALUE), NONE);
        Check.read(bench, 3, "h");
        due("where a longer text was", bench.textOf(3, 1), NONE);
    }

    private void unfolded() {
        String where = "Promise 8";
        says(where, "Returns a character of the unfolded text of a part: its notes, rests, tuplets and bar lines as they are written, "
            + "each repeat replaced by its passes.");
        dueUnfolded("", "");
        dueUnfolded("^q..~rw.{3:2e{5:4tt}}||", "^q..~rw.{3:2e{5:4tt}}||");
        dueUnfolded("q[^e~|/1:{3:2s}]2rh[]9", "q^e~|{3:2s}^e~|rh");
        dueUnfolded("[/1:q]2", "q");
        dueUnfolded("[]9[/9:q]2", "");
        dueUnfolded("[q]9[h]9", "qqqqqqqqqhhhhhhhhh");
        RhythmBench bench = bench("[q]2", "", "[h]9", "[" + "|".repeat(96) + "q]9");
        says(where, "`part`: 0 to 3");
        due("part 0", bench.unfolded(0, 0), 'q');
        due("part 3", bench.unfolded(3, 0), '|');
        says(where, "`k`: its index, 0 or more");
        due("index 0", bench.unfolded(0, 0), 'q');
        due("index 1", bench.unfolded(0, 1), 'q');
        due("index 872", bench.unfolded(3, 872), 'q');
        due("index 871", bench.unfolded(3, 871), '|');
        says(where, "Returns its code; BAD if there is no such part, or k is negative;");
        due("a code", bench.unfolded(2, 8), 104);
        for (int part : NO_PARTS) {
            due("part " + part, bench.unfolded(part, 0), BAD);
        }
        due("index -1", bench.unfolded(0, -1), BAD);
        due("index -1 of an empty text", bench.unfolded(1, -1), BAD);
        due("the least index", bench.unfolded(0, Integer.MIN_VALUE), BAD);
        says(where, "NONE if the unfolded text is not so long.");
        due("index 2, where the written text goes on", bench.unfolded(0, 2), NONE);
        due("index 9", bench.unfolded(2, 9), NONE);
        due("index 0 of an empty text", bench.unfolded(1, 0), NONE);
        due("index 873", bench.unfolded(3, 873), NONE);
        due("the greatest index", bench.unfolded(0, Integer.MAX_VALUE), NONE);
    }

    private void setMeter() {
        String where = "Promise 9";
        says(where, "Sets the meter. This is an act.");
        RhythmBench bench = bench("h.", "w");
        long print = bench.fingerprint();
        due("wrongBar in 4/4", bench.wrongBar(0), 0);
        bench.setMeter(6, 8);
        due("wrongBar in 6/8", bench.wrongBar(0), NONE);
        due("wrongBar of another part", bench.wrongBar(1), 0);
        dueAct(bench, 2, print);
        due("wrongBar in 4/4 again", bench.wrongBar(0), 0);
        says(where, "`beats`: 1 to 16");
        for (int beats = -1; beats <= 18; beats++) {
            due("beats " + beats, new RhythmBench().setMeter(beats, 4), beats >= 1 && beats <= 16 ? 404 : BAD);
        }
        says(where, "`value`: 1, 2, 4, 8 or 16");
        for (int value = -16; value <= 64; value++) {
            boolean isRight = value == 1 || value == 2 || value == 4 || value == 8 || value == 16;
            due("value " + value, new RhythmBench().setMeter(4, value), isRight ? 404 : BAD);
        }
        says(where, "Returns 100 times the previous number of beats plus the previous value; BAD if an argument is not as described.");
        due("from 4/4", bench.setMeter(16, 1), 404);
        due("from 16/1", bench.setMeter(1, 16), 1601);
        due("no beats", bench.setMeter(0, 4), BAD);
        due("no value", bench.setMeter(4, 0), BAD);
        due("the least", bench.setMeter(Integer.MIN_VALUE, Integer.MIN_VALUE), BAD);
        due("the greatest", bench.setMeter(Integer.MAX_VALUE, 4), BAD);
        due("the greatest value", bench.setMeter(4, Integer.MAX_VALUE), BAD);
        due("from 1/16", bench.setMeter(3, 2), 116);
    }

    private void setSwing() {
        String where = "Promise 10";
        says(where, "Sets the swing. This is an act.");
        RhythmBench bench = bench("ee");
        long print = bench.fingerprint();
        dueSwung(bench, 1, 1, 8);
        bench.setSwing(2, 1);
        dueSwung(bench, 1, 1, 6);
        dueOnset(bench, 1, 1, 8);
        dueAct(bench, 1, print);
        dueSwung(bench, 1, 1, 8);
        says(where, "`a`: 1 to 9");
        for (int a = -1; a <= 11; a++) {
            due("a " + a, new RhythmBench().setSwing(a, 3), a >= 1 && a <= 9 ? 11 : BAD);
        }
        says(where, "`b`: 1 to 9");
        for (int b = -1; b <= 11; b++) {
            due("b " + b, new RhythmBench().setSwing(3, b), b >= 1 && b <= 9 ? 11 : BAD);
        }
        says(where, "Returns 10 times the previous a plus the previous b; BAD if an argument is not in its range.");
        due("from 1, 1", bench.setSwing(9, 1), 11);
        due("from 9, 1", bench.setSwing(1, 9), 91);
        due("no a", bench.setSwing(0, 5), BAD);
        due("no b", bench.setSwing(5, 0), BAD);
        due("the least", bench.setSwing(Integer.MIN_VALUE, 1), BAD);
        due("the greatest", bench.setSwing(1, Integer.MAX_VALUE), BAD);
        due("from 1, 9", bench.setSwing(1, 1), 19);
    }
}
