/** What the description says of times, and under UNFOLDING, METER, SWING and LOOPS; it counts for the promises 4 to 26. */
final class SentencesOfTimes extends Sentences {
    private static final String WHERE = "Description";
    private static final String FIFTY = "q".repeat(50);

    SentencesOfTimes(Check check, Document document) {
        super(check, document);
    }

    @Override
    void test() {
        exact();
        lowestTerms();
        passes();
        endingOfAPass();
        tooLong();
        joined();
        tieWithoutEffect();
        eventOfNotes();
        restsMakeNone();
        numberedFromZero();
        bars();
        noBarLines();
        meter();
        meterLength();
        levels();
        syncopation();
        shortEvents();
        swing();
        swingQuarters();
        swungTime();
        loops();
        cycle();
    }

    private void exact() {
        says(WHERE, "Times and lengths are exact fractions of a whole note.");
        // The finest lengths together: 1/392, 1/200, 1/648 and 63/8192, with the denominator 2^13 * 3^4 * 5^2 * 7^2.
        String fine = "{7:2{7:2t}}{5:2{5:2t}}{9:2{9:2t}}{8:3{8:3t..}}";
        dueLength(fine, 13643431, 812851200);
        dueOnset(bench(fine + "q"), 4, 13643431, 812851200);
        dueOnset(bench(fine + "q"), 3, 7219, 793800);
        dueLength("[" + "{3:2q}".repeat(16) + "]9", 24, 1);
        dueLength("[{2:9{2:9" + "w..".repeat(28) + "}}]9w", 35725, 4);
        dueOnset(bench("[{2:9{2:9" + "w..".repeat(28) + "}}]9q"), 252, 35721, 4);
    }

    private void lowestTerms() {
        says(WHERE, "A method that tells a time or a length tells its numerator (what = 0) or its denominator (what = 1) "
            + "in lowest terms, with a positive denominator (0 is 0 / 1).");
        RhythmBench none = new RhythmBench();
        dueFraction("length 0", none.length(0, 0), none.length(0, 1), 0, 1);
        dueBar(none, 0, 0, 1);
        RhythmBench bench = bench("qqqq|{6:4qqq}", "h.", "eeee");
        dueOnset(bench, 0, 0, 1);
        dueSwung(bench, 0, 0, 1);
        dueFraction("time 0", bench.time(0, 0), bench.time(0, 1), 0, 1);
        dueOnset(bench, 2, 1, 2);
        dueOnset(bench, 4, 1, 1);
        dueSwung(bench, 2, 1, 2);
        dueLasts(bench, 5, 1, 6);
        dueFraction("length", bench.length(0, 0), bench.length(0, 1), 3, 2);
        dueBar(bench, 0, 1, 1);
        dueBar(bench, 1, 1, 2);
        dueFraction("time 2", bench.time(2, 0), bench.time(2, 1), 1, 4);
        dueCycle(bench, 1, 2, 3, 2);
        dueCycle(bench, 2, 2, 1, 2);
    }

    private void passes() {
        says(WHERE, "A repeat stands for its passes from 1 to p, one after the other;");
        for (int p = 2; p <= 9; p++) {
            dueUnfolded("[qh|]" + p, "qh|".repeat(p));
        }
        dueUnfolded("[/1:w/2:h/3:q/4:e/5:s/6:t]6", "whqest");
        dueUnfolded("w[q/1:h]2e[s]3", "wqhqesss");
    }

    private void endingOfAPass() {
        says(WHERE, "each consists of the body and then of the body of the first ending among whose digits the number of the "
            + "pass is (of none, if there is no such ending).");
        dueUnfolded("[q/1:h/2:w]2", "qhqw");
        dueUnfolded("[q/2:h/1:w]2", "qwqh");
        dueUnfolded("[q/1:h/1:w]2", "qhq");
        dueUnfolded("[q/12:h/2:w]2", "qhqh");
        dueUnfolded("[q/1:/12:w]2", "qqw");
        dueUnfolded("[q/2:h]3", "qqhq");
        dueUnfolded("[q/9:h]2", "qq");
        dueUnfolded("[q/91:h]2", "qhq");
        dueUnfolded("[q/9:h]9", "q".repeat(9) + "h");
        dueUnfolded("[q/1:h]9", "qh" + "q".repeat(8));
        dueUnfolded("[/13579:w|/2468:h]9", "w|hw|hw|hw|hw|");
        dueUnfolded("[q]2", "qq");
    }

    private void tooLong() {
        says(WHERE, "A text whose unfolding has more than 300 notes and rests is too long.");
        dueRead("[" + FIFTY + "]6", 300);
        dueRead("[" + FIFTY + "]6q", FULL);
        dueRead("q[" + FIFTY + "]6", FULL);
        dueRead("[" + "rq".repeat(30) + "]9[" + "rq".repeat(15) + "]2", 0);
        dueRead("[" + "rq".repeat(30) + "]9[" + "rq".repeat(15) + "]2rq", FULL);
        dueRead("[" + "q~".repeat(30) + "]9[" + "q~".repeat(15) + "]2", 1);
        dueRead("[" + "q~".repeat(30) + "]9[" + "q~".repeat(15) + "]2q", FULL);
        dueRead("[{2:2" + FIFTY + "}]6", 300);
        dueRead("[{2:2" + FIFTY + "}]6{2:2q}", FULL);
        dueRead("[" + FIFTY + "/6:q]6", FULL);
        dueRead("[" + FIFTY + "/7:q]6", 300);
        dueRead("[" + FIFTY + "/7:qqqq/1:/123456:q]6", FULL);
        dueRead("[" + "q".repeat(33) + "/1:qqq]9", 300);
        dueRead("[" + "q".repeat(33) + "/1:qqqq]9", FULL);
        dueRead("[" + "t".repeat(97) + "]9", FULL);
        for (int k = 0; k < 6; k++) {
            String letter = LETTERS.substring(k, k + 1);
            dueRead("[" + letter.repeat(75) + "]4", 300);
            dueRead("[" + letter.repeat(43) + "]7", FULL);
        }
        // Bar lines and the signs of tuplets are neither notes nor rests.
        dueRead("[" + "|".repeat(97) + "]9", 0);
        dueRead("[^q..~" + "|".repeat(90) + "]9", 1);
    }

    private void joined() {
        says(WHERE, "In the unfolding, a note that is tied and followed by a note (bar lines between them do not matter) is joined "
            + "with it: both make one event, and so on (where tuplets, bodies and endings begin or end between them does not "
            + "matter either).");
        String[] texts = {"q~q", "q~|q", "q~|||q", "q~q~q", "{3:2q~}q", "q~{3:2q}", "{3:2q~{3:2q~}q~}{3:2q}", "[q~]9", "[q~|]2q",
            "q~[q]2", "[q~/1:q~/2:q]2", "[q~/1:|q~]2|[q~]2q", "q~[/2:q]2", "q~[|/1:]2|{2:2{2:2q}}", "q~[]2q"};
        int[] events = {1, 1, 1, 1, 1, 1, 1, 1, 1, 2, 1, 1, 1, 1, 1};
        int[] notes = {2, 2, 2, 3, 2, 2, 4, 9, 3, 2, 4, 6, 2, 2, 2};
        for (int k = 0; k < texts.length; k++) {
            RhythmBench bench = bench(texts[k]);
            due("events " + texts[k], bench.events(0), events[k]);
            due("notes of event 0 of " + texts[k], bench.event(0, 0, 2), notes[k]);
        }
        due("the last note of a chain is not tied", bench("q~q~qq").events(0), 2);
        due("its notes", bench("q~q~qq").event(0, 0, 2), 3);
        due("a note that is not tied", bench("qq~q").event(0, 0, 2), 1);
        RhythmBench longest = bench("[" + "q~".repeat(30) + "]9[" + "q~".repeat(15) + "]2");
        due("300 notes in one event", longest.event(0, 0, 2), 300);
    }

    private void tieWithoutEffect() {
        says(WHERE, "If a tied note is not followed by a note, the tie has no effect.");
        String[] texts = {"q~", "q~|", "q~rqq", "q~|rq|q", "{3:2q~}rqq", "[q~rq]2", "[q~/1:rq/2:q]2", "q~rq", "q~[rq]2q"};
        int[] events = {1, 1, 2, 2, 2, 2, 2, 1, 2};
        for (int k = 0; k < texts.length; k++) {
            RhythmBench bench = bench(texts[k]);
            due("events " + texts[k], bench.events(0), events[k]);
            due("notes of event 0 of " + texts[k], bench.event(0, 0, 2), 1);
        }
        RhythmBench bench = bench("h~rqq~");
        dueLasts(bench, 0, 1, 2);
        dueOnset(bench, 1, 3, 4);
        dueLasts(bench, 1, 1, 4);
        // The tie at the end of a text does not wait for the part's next text.
        Check.read(bench, 0, "qq");
        due("events of the next text", bench.events(0), 2);
    }

    private void eventOfNotes() {
        says(WHERE, "An event begins where its first note begins, it lasts as long as its notes together, and it is accented "
            + "if its first note is.");
        RhythmBench bench = bench("rq^h.~|{3:2q~q}^e~qq~^q");
        due("events", bench.events(0), 3);
        dueOnset(bench, 0, 1, 4);
        dueLasts(bench, 0, 13, 12);
        due("accent by the first note", bench.event(0, 0, 0), 1);
        dueOnset(bench, 1, 4, 3);
        dueLasts(bench, 1, 3, 8);
        due("accent by the first note of two", bench.event(0, 1, 0), 1);
        dueOnset(bench, 2, 41, 24);
        dueLasts(bench, 2, 1, 2);
        due("no accent by a later note", bench.event(0, 2, 0), 0);
    }

    private void restsMakeNone() {
        says(WHERE, "(Rests make no events.)");
        dueRead("rqrwrt..", 0);
        dueRead("{3:2rq}[re]9", 0);
        RhythmBench bench = bench("rqqrhq");
        due("events among rests", bench.events(0), 2);
        dueOnset(bench, 1, 1, 1);
    }

    private void numberedFromZero() {
        says(WHERE, "The events of a part are numbered from 0; its length is the sum of all lengths of notes and rests.");
        RhythmBench bench = bench("rw" + "q".repeat(3) + "re");
        dueOnset(bench, 0, 1, 1);
        dueOnset(bench, 2, 3, 2);
        due("no event before the first", bench.onset(0, -1, 0), BAD);
        due("no event behind the last", bench.onset(0, 3, 0), BAD);
        dueFraction("length", bench.length(0, 0), bench.length(0, 1), 15, 8);
        dueLength("", 0, 1);
        dueLength("|[|]2", 0, 1);
        dueLength("rwrw", 2, 1);
        dueLength("[q/2:rh]2", 1, 1);
        RhythmBench most = bench("[" + FIFTY + "]6");
        dueOnset(most, 299, 299, 4);
        due("no event 300", most.onset(0, 300, 0), BAD);
    }

    private void bars() {
        says(WHERE, "Bars: the bar lines of the unfolding divide it into bars, numbered from 0; one bar line more stands for "
            + "another bar, also where it is empty.");
        String[] texts = {"|", "||", "q|q", "q|", "|q", "[q|]2", "[|/1:|]3q", "|".repeat(100), "[" + "|".repeat(97) + "]9"};
        int[] count = {2, 3, 2, 2, 2, 3, 5, 101, 874};
        for (int k = 0; k < texts.length; k++) {
            due("bars of " + texts[k], bench(texts[k]).bars(0), count[k]);
        }
        RhythmBench bench = bench("h||q|");
        dueBar(bench, 0, 1, 2);
        dueBar(bench, 1, 0, 1);
        dueBar(bench, 2, 1, 4);
        dueBar(bench, 3, 0, 1);
        due("no bar before the first", bench.bar(0, -1, 0), BAD);
        due("no bar behind the last", bench.bar(0, 4, 0), BAD);
    }

    private void noBarLines() {
        says(WHERE, "(A text without bar lines has one bar.)");
        String[] texts = {"", "qq", "rq", "[]2", "[q/1:{3:2q}]9"};
        for (String text : texts) {
            due("bars of " + text, bench(text).bars(0), 1);
        }
    }

    private void meter() {
        says(WHERE, "The meter is a number of beats, 1 to 16, and a value, 1, 2, 4, 8 or 16; initially 4 and 4.");
        RhythmBench bench = new RhythmBench();
        due("initially", bench.setMeter(1, 1), 404);
        due("the least", bench.setMeter(16, 16), 101);
        due("the greatest", bench.setMeter(0, 16), BAD);
        due("too great", bench.setMeter(17, 16), BAD);
        due("it stays", bench.setMeter(4, 4), 1616);
        for (int value = -1; value <= 40; value++) {
            boolean isRight = value == 1 || value == 2 || value == 4 || value == 8 || value == 16;
            due("value " + value, new RhythmBench().setMeter(3, value), isRight ? 404 : BAD);
        }
    }

    private void meterLength() {
        says(WHERE, "Its length is beats / value.");
        dueFits("s", 1, 16);
        dueFits("[wwww]4", 16, 1);
        dueFits("h.", 3, 4);
        dueFits("h.", 6, 8);
        dueFits("w", 16, 16);
        dueFits("w", 2, 2);
        dueFits("q..", 7, 16);
        dueFits("{3:2qqq}q", 6, 8);
    }

    /** Whether a bar has the length of a meter, and with a note more or in another meter not. */
    private void dueFits(String bar, int beats, int value) {
        RhythmBench bench = bench(bar, bar + "{8:2{8:2t}}");
        bench.setMeter(beats, value);
        due("wrongBar of " + bar + " in " + beats + "/" + value, bench.wrongBar(0), NONE);
        due("wrongBar of more in " + beats + "/" + value, bench.wrongBar(1), 0);
        bench.setMeter(beats == 16 ? 15 : beats + 1, value);
        due("wrongBar of " + bar + " in another meter", bench.wrongBar(0), 0);
    }

    private void levels() {
        says(WHERE, "The level of a time is the least k from 0 to 6 such that the time is a multiple of (the length of the meter) / 2^k, "
            + "and 7 if there is none.");
        // Each text is what stands before the event whose level is asked, from level 0 on.
        dueLevels(4, 4, "w", "h", "q", "e", "s", "t", "{4:2t}", "{8:2t}");
        dueLevels(3, 4, "h.", "q.", "e.", "s.", "t.", "{4:2t.}", "{8:2t.}", "{8:2{4:2t.}}");
        dueLevels(16, 1, "[wwww]4", "wwwwwwww", "wwww", "ww", "w", "h", "q", "e");
        dueLevels(1, 16, "s", "t", "{4:2t}", "{8:2t}", "{8:2{4:2t}}", "{8:2{8:2t}}", "{8:3{8:3tt}}", "{8:3{8:3t}}");
        dueLevels(5, 8, "he", "qs", "et", "s{4:2t}", "t{8:2t}", "{4:2t}{8:2{4:2t}}", "{8:2t}{8:2{8:2t}}", "{8:2{8:2t}}");
        due("level of 0", levelAfter("", 7, 8), 0);
        due("level of 2", levelAfter("ww", 4, 4), 0);
        due("level of 3/2", levelAfter("wh", 4, 4), 1);
        due("level of 63/64", levelAfter("h..s.{4:2t}", 4, 4), 6);
        due("level of a third", levelAfter("{6:4h}", 4, 4), 7);
        due("level of a third in 1/1 times 3", levelAfter("{6:4h}", 3, 1), 7);
        due("level of a quarter in 3/4", levelAfter("q", 3, 4), 7);
    }

    private void dueLevels(int beats, int value, String... before) {
        for (int k = 0; k < before.length; k++) {
            due("level after " + before[k] + " in " + beats + "/" + value, levelAfter(before[k], beats, value), k);
        }
    }

    private static int levelAfter(String before, int beats, int value) {
        RhythmBench bench = bench(before + "w");
        bench.setMeter(beats, value);
        return bench.event(0, bench.events(0) - 1, 3);
    }

    private void syncopation() {
        says(WHERE, "The syncopation of an event is the level of its beginning minus the least level of a time that lies after its "
            + "beginning and before its end, if this is positive, and 0 otherwise");
        // From 3/4 to 1: 1 is not before its end; a little longer, and it is.
        due("to the bar line", syncopationOf("rh.", "q"), 0);
        due("a little over the bar line", syncopationOf("rh.", "q~{9:2{9:2t}}"), 2);
        due("a little less", syncopationOf("rh.", "{9:8q}"), 0);
        due("from 0, over all levels", syncopationOf("", "w~w"), 0);
        due("from 1/2, of level 1, with levels from 2 on", syncopationOf("rh", "h"), 0);
        due("from 1/2, with 1", syncopationOf("rh", "h."), 1);
        due("from 1/4, with 1/2", syncopationOf("rq", "h"), 1);
        due("from 1/4, to 1/2", syncopationOf("rq", "q"), 0);
        due("from 2/3, of level 7, with 1, of level 0", syncopationOf("{3:2rw}", "h"), 7);
        due("from 1/3, with 1/2, of level 1", syncopationOf("{6:4rh}", "q"), 6);
        due("from 1/3 to 1/2", syncopationOf("{6:4rh}", "{6:4q}"), 4);
        due("from 63/64, of level 6, with 1", syncopationOf("rh..rs.{4:2rt}", "t"), 6);
        due("from 1/32, of level 5, with 3/64, of level 6, alone", syncopationOf("rt", "t"), 0);
        due("over two bars", syncopationOf("rh.", "w~w"), 2);
    }

    /** The syncopation of the event that has these notes, behind some rests, in 4/4. */
    private static int syncopationOf(String rests, String notes) {
        return bench(rests + notes).event(0, 0, 4);
    }

    private void shortEvents() {
        says(WHERE, "(also if it is so short that there is no such time with a level less than 7).");
        due("from 1/128 to 1/64", syncopationOf("{8:2rt}", "{8:2t}"), 0);
        due("from 1/128 over 1/64, of level 6", syncopationOf("{8:2rt}", "{8:2t.}"), 1);
        due("from 0, of level 0", syncopationOf("", "{9:2t}"), 0);
        due("from 1/2, of level 1", syncopationOf("rh", "{9:2t}"), 0);
        due("from 1/3, of level 7", syncopationOf("{6:4rh}", "{9:2{9:2t}}"), 0);
        due("from 5/384, to 1/64", syncopationOf("{6:2rt}{6:2{8:2rt}}", "{6:2{8:2t}}"), 0);
        due("from 5/384, over 1/64", syncopationOf("{6:2rt}{6:2{8:2rt}}", "{6:2{8:2t.}}"), 1);
    }

    private void swing() {
        says(WHERE, "The swing is two numbers a and b, 1 to 9, initially 1 and 1.");
        RhythmBench bench = new RhythmBench();
        due("initially", bench.setSwing(9, 9), 11);
        due("the greatest", bench.setSwing(1, 9), 99);
        due("a too small", bench.setSwing(0, 9), BAD);
        due("b too small", bench.setSwing(1, 0), BAD);
        due("a too great", bench.setSwing(10, 9), BAD);
        due("b too great", bench.setSwing(1, 10), BAD);
        due("it stays", bench.setSwing(9, 1), 19);
        RhythmBench straight = bench("t{3:2eee}{9:8t}q");
        for (int i = 0; i < straight.events(0); i++) {
            dueSwung(straight, i, straight.onset(0, i, 0), straight.onset(0, i, 1));
        }
    }

    private void swingQuarters() {
        says(WHERE, "A time t is swung as follows: let g be the greatest multiple of 1/4 that is at most t, and x = t - g.");
        RhythmBench bench = bench("qqhw" + "{9:8q}q");
        bench.setSwing(9, 1);
        dueSwung(bench, 0, 0, 1);
        dueSwung(bench, 1, 1, 4);
        dueSwung(bench, 2, 1, 2);
        dueSwung(bench, 3, 1, 1);
        dueSwung(bench, 4, 2, 1);
        // 2 + 2/9 is still before 2 + 1/4: x = 2/9 becomes 9/40 + 7/72 * 2/10.
        dueSwung(bench, 5, 101, 45);
    }

    private void swungTime() {
        says(WHERE, "If x is less than 1/8, it becomes x * 2a / (a + b); otherwise it becomes a / (4 * (a + b)) + (x - 1/8) * 2b / (a + b). "
            + "The swung time is g plus this.");
        // x = 1/9 is just less than 1/8, 1/8 is not, and 5/32 is more.
        dueSwings(2, 1, 4, 27, 1, 6, 3, 16);
        dueSwings(1, 2, 2, 27, 1, 12, 1, 8);
        dueSwings(9, 1, 1, 5, 9, 40, 37, 160);
        dueSwings(1, 9, 1, 45, 1, 40, 13, 160);
        dueSwings(8, 9, 16, 153, 2, 17, 41, 272);
        dueSwings(9, 9, 1, 9, 1, 8, 5, 32);
    }

    private void dueSwings(int a, int b, int... due) {
        String[] before = {"{9:8e}", "e", "et"};
        for (int k = 0; k < before.length; k++) {
            RhythmBench first = bench(before[k] + "q");
            first.setSwing(a, b);
            int last = first.events(0) - 1;
            dueSwung(first, last, due[2 * k], due[2 * k + 1]);
            // A whole note later the same is added to 1.
            RhythmBench later = bench("w" + before[k] + "q");
            later.setSwing(a, b);
            dueSwung(later, last + 1, due[2 * k] + due[2 * k + 1], due[2 * k + 1]);
        }
    }

    private void loops() {
        says(WHERE, "A part in a loop is repeated without end; its events begin at their times plus the multiples of its length.");
        due("a beat against three", bench("q", "h.").meets(0, 1), 1);
        due("two against three", bench("qq", "qqq").meets(0, 1), 6);
        due("a later round meets", bench("qrqq", "rqrqrqq").meets(0, 1), 2);
        due("what stands behind the notes counts for the length", bench("qrh", "qrq").meets(0, 1), 1);
        due("never", bench("rqq", "qrq").meets(0, 1), 0);
    }

    private void cycle() {
        says(WHERE, "The cycle of two parts is the least positive time that is a multiple of the lengths of both.");
        dueCycleOf("q", "q", 1, 4);
        dueCycleOf("q", "h", 1, 2);
        dueCycleOf("h.", "h", 3, 2);
        dueCycleOf("{3:2q}", "{5:4q}", 1, 1);
        dueCycleOf("{3:2e}", "{9:8q}", 2, 3);
        dueCycleOf("q", "{7:2{7:2t}}", 1, 4);
        dueCycleOf("rq.", "w", 3, 1);
        dueCycleOf("wwwwww", "wwww", 12, 1);
    }

    private void dueCycleOf(String one, String other, long up, long down) {
        RhythmBench bench = bench(one, other);
        dueCycle(bench, 0, 1, up, down);
        dueCycle(bench, 1, 0, up, down);
    }
}
