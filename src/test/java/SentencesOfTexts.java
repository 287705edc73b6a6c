/** What the description says under TEXTS; it counts for the promises 2, 4, 7 and 8. */
final class SentencesOfTexts extends Sentences {
    private static final String WHERE = "Description";

    SentencesOfTexts(Check check, Document document) {
        super(check, document);
    }

    @Override
    void test() {
        fourParts();
        buffer();
        anyNumber();
        letters();
        dotsAndTies();
        rests();
        tuplets();
        tupletsInTuplets();
        barLines();
        repeats();
        bodies();
        endings();
        wrongAtFirst();
        wrongAtLength();
        anyLength();
    }

    private void fourParts() {
        says(WHERE, "There are four parts, numbered from 0, each with a text, which is empty at first.");
        RhythmBench bench = new RhythmBench();
        for (int part = 0; part < 4; part++) {
            due("textOf " + part + " at first", bench.textOf(part, 0), NONE);
        }
        String[] texts = {"w", "hh", "qqq", "eeee"};
        for (int part = 0; part < 4; part++) {
            due("read " + part, Check.read(bench, part, texts[part]), part + 1);
        }
        for (int part = 0; part < 4; part++) {
            dueText("text of " + part, Check.textOf(bench, part), texts[part]);
        }
        due("no part before the first", bench.textOf(-1, 0), BAD);
        due("no part behind the last", bench.textOf(4, 0), BAD);
    }

    private void buffer() {
        says(WHERE, "There is a buffer of at most 100 characters with codes from 32 to 126, initially empty.");
        RhythmBench bench = new RhythmBench();
        due("initially", bench.clear(), 0);
        due("below the codes", bench.type(31), BAD);
        due("above the codes", bench.type(127), BAD);
        for (int c = 32; c <= 126; c++) {
            due("type " + c, bench.type(c), c - 31);
        }
        for (int size = 96; size <= 100; size++) {
            due("type", bench.type('q'), size);
        }
        due("the character 101", bench.type('q'), FULL);
        due("all of them", bench.clear(), 100);
    }

    private void anyNumber() {
        says(WHERE, "The text of a part consists of any number of:");
        dueRead("", 0);
        dueRead("q".repeat(100), 100);
        String[] things = {"q", "rq", "{3:2q}", "|", "[q]2"};
        int[] events = {1, 0, 1, 0, 2};
        for (int i = 0; i < things.length; i++) {
            for (int j = 0; j < things.length; j++) {
                dueRead(things[i] + things[j], events[i] + events[j]);
            }
        }
        for (int c = 32; c <= 126; c++) {
            dueRead(String.valueOf((char) c), alone(c));
        }
    }

    /** What reading a single character answers: a letter is a note, some others begin something. */
    private static int alone(int c) {
        if (LETTERS.indexOf(c) >= 0) {
            return 1;
        }
        if (c == '|') {
            return 0;
        }
        return "^r{[".indexOf(c) >= 0 ? WRONG_AT_0 - 1 : WRONG_AT_0;
    }

    private void letters() {
        says(WHERE, "notes: perhaps \"^\" (the note is accented); a letter: w, h, q, e, s or t, "
            + "for the lengths 1, 1/2, 1/4, 1/8, 1/16, 1/32;");
        for (int k = 0; k < 6; k++) {
            String letter = LETTERS.substring(k, k + 1);
            dueLength(letter, 1, 1L << k);
            dueLength("^" + letter, 1, 1L << k);
            due("accent of ^" + letter, bench("^" + letter).event(0, 0, 0), 1);
            due("accent of " + letter, bench(letter).event(0, 0, 0), 0);
        }
        for (int c = 32; c <= 126; c++) {
            boolean isLetter = LETTERS.indexOf(c) >= 0;
            dueRead("^" + (char) c, isLetter ? 1 : WRONG_AT_0 - 1);
        }
        dueWrong("^^q", 1);
        dueWrong("q^", 2);
    }

    private void dotsAndTies() {
        says(WHERE, "then up to two \".\" (with one the length is 3/2 of this, with two 7/4 of this); "
            + "then perhaps \"~\" (the note is tied to what follows);");
        for (int k = 0; k < 6; k++) {
            String letter = LETTERS.substring(k, k + 1);
            dueLength(letter + ".", 3, 2L << k);
            dueLength(letter + "..", 7, 4L << k);
            dueLength("^" + letter + "..~", 7, 4L << k);
            dueLength(letter + ".~", 3, 2L << k);
            dueWrong(letter + "...", 3);
        }
        dueRead("q~", 1);
        dueRead("q~q", 1);
        dueWrong("q~~", 2);
        dueWrong("q~.", 2);
        dueWrong("q.~.", 3);
        dueWrong("q..~~", 4);
        dueWrong(".", 0);
        dueWrong("~", 0);
        dueWrong("^.", 1);
        dueWrong("^~", 1);
        String[] before = {"|", "{3:2q}", "[q]2", "[", "{3:2", "[q/1:", "{3:2{3:2q}"};
        for (String text : before) {
            dueWrong(text + ".", text.length());
            dueWrong(text + "~", text.length());
        }
        dueWrong("q..|.", 4);
        dueWrong("q|~", 2);
    }

    private void rests() {
        says(WHERE, "rests: \"r\", a letter and up to two \".\" with the same meaning;");
        for (int k = 0; k < 6; k++) {
            String rest = "r" + LETTERS.charAt(k);
            dueLength(rest, 1, 1L << k);
            dueLength(rest + ".", 3, 2L << k);
            dueLength(rest + "..", 7, 4L << k);
            dueWrong(rest + "...", 4);
            dueWrong(rest + "~", 2);
            dueWrong(rest + ".~", 3);
            dueWrong("^" + rest, 1);
        }
        for (int c = 32; c <= 126; c++) {
            boolean isLetter = LETTERS.indexOf(c) >= 0;
            dueRead("r" + (char) c, isLetter ? 0 : WRONG_AT_0 - 1);
        }
        dueWrong("qrq~", 3);
        dueWrong("rqr", 3);
    }

    private void tuplets() {
        says(WHERE, "tuplets: \"{\", a digit m from 2 to 9, \":\", a digit n from 2 to 9, at least one note, "
            + "rest or tuplet, and \"}\": all lengths in it are multiplied by n / m.");
        for (int c = 32; c <= 126; c++) {
            boolean isRight = c >= '2' && c <= '9';
            dueRead("{" + (char) c + ":2q}", isRight ? 1 : WRONG_AT_0 - 1);
            dueRead("{2:" + (char) c + "q}", isRight ? 1 : WRONG_AT_0 - 3);
            dueRead("{2" + (char) c + "2q}", c == ':' ? 1 : WRONG_AT_0 - 2);
        }
        for (int m = 2; m <= 9; m++) {
            for (int n = 2; n <= 9; n++) {
                long common = gcd(n, 4L * m);
                dueLength("{" + m + ":" + n + "q}", n / common, 4L * m / common);
            }
        }
        dueWrong("{3:2}", 4);
        dueWrong("q{3:2}", 5);
        dueWrong("{3:2q}{3:2}", 10);
        dueRead("{3:2q}", 1);
        dueRead("{3:2rq}", 0);
        dueRead("{3:2{3:2q}}", 1);
        dueWrong("{3:2{3:2}", 8);
        dueWrong("{3:2q{3:2}", 9);
        for (String sign : new String[] {"|", "[", "]", "/", ":", "2"}) {
            dueWrong("{3:2" + sign, 4);
            dueWrong("{3:2q" + sign, 5);
            dueWrong("[{3:2q" + sign, 6);
        }
        dueLength("q{3:2q.rh..^s~}rq", 11, 8);
        dueLength("{9:2" + "w..".repeat(31) + "}", 217, 18);
    }

    private void tupletsInTuplets() {
        says(WHERE, "Tuplets can be in tuplets, but not deeper than two in one another;");
        dueRead("{2:3{2:3q}}", 1);
        dueWrong("{2:3{2:3{", 8);
        dueWrong("{2:3{2:3q{", 9);
        dueWrong("[{2:3{2:3{", 9);
        dueWrong("[/1:{2:3{2:3{", 12);
        dueRead("{2:3{2:3q}{2:3q}q}{2:3{2:3q}}", 4);
        dueRead("[{2:3{2:3q}}/1:{2:3{2:3q}}]2", 3);
        dueWrong("{2:3{2:3q}}}", 11);
        dueWrong("}", 0);
        dueLength("{3:2{5:4q}}", 2, 15);
        dueLength("{3:2q{5:4q}q}q", 43, 60);
        dueLength("{9:2{9:2t..}}", 7, 2592);
        dueLength("{8:3{8:5t..}}", 105, 8192);
        dueLength("{2:9{2:9w..}}", 567, 16);
        for (int m = 2; m <= 9; m++) {
            long common = gcd(9, (long) m * m);
            dueLength("{" + m + ":3{" + m + ":3w}}", 9 / common, m * m / common);
        }
    }

    private static long gcd(long a, long b) {
        return b == 0 ? a : gcd(b, a % b);
    }

    private void barLines() {
        says(WHERE, "bar lines: \"|\";");
        dueRead("|", 0);
        dueRead("|".repeat(100), 0);
        dueRead("[|/1:|]2", 0);
        dueRead("|q||q|", 2);
        dueWrong("{2:2q|", 5);
        dueWrong("^|", 1);
        dueWrong("r|", 1);
        dueWrong("[|/|", 3);
        dueWrong("[]|", 2);
    }

    private void repeats() {
        says(WHERE, "repeats: \"[\", a body, any number of endings, \"]\", and a digit p from 2 to 9, the number of passes.");
        for (int c = 32; c <= 126; c++) {
            boolean isRight = c >= '2' && c <= '9';
            dueRead("[q]" + (char) c, isRight ? c - '0' : WRONG_AT_0 - 3);
            dueRead("[q/1:q]" + (char) c, isRight ? c - '0' + 1 : WRONG_AT_0 - 7);
        }
        dueWrong("[q]22", 4);
        dueWrong("[q]", 3);
        dueWrong("]2", 0);
        dueWrong("[]2]", 3);
        dueWrong("q/", 1);
        dueWrong("[]2/", 3);
        dueRead("[]2", 0);
        dueRead("[q]2[q]3", 5);
        dueRead("[q/1:q]2", 3);
        dueRead("[q/1:q/2:q]2", 4);
        dueRead("[" + "/1:".repeat(32) + "]2", 0);
        dueRead("[q" + "/2:q".repeat(24) + "]2", 3);
    }

    private void bodies() {
        says(WHERE, "A body consists of any number of notes, rests, tuplets and bar lines (not of repeats).");
        dueRead("[]9", 0);
        dueRead("[/1:]9", 0);
        dueRead("[" + "|".repeat(97) + "]2", 0);
        dueRead("[^q..~rq{3:2eee}||/1:rt{2:3{3:2w}}|^w]2", 10);
        dueWrong("[[", 1);
        dueWrong("[q[", 2);
        dueWrong("[q/1:[", 5);
        dueWrong("[q/1:q[", 6);
        dueWrong("[q/1:q]2[q[", 10);
        dueRead("[q]2[q]2", 4);
    }

    private void endings() {
        says(WHERE, "An ending is \"/\", at least one digit from 1 to 9 (a digit can stand there twice, and be "
            + "greater than p), \":\", and a body.");
        dueWrong("[q/:", 3);
        dueWrong("[q/1", 4);
        dueWrong("[q/1q", 4);
        dueWrong("[q/1]", 4);
        dueWrong("[q/1/", 4);
        dueWrong("[q//", 3);
        dueWrong("[q/10:", 4);
        for (int c = 32; c <= 126; c++) {
            boolean isRight = c >= '1' && c <= '9';
            dueRead("[q/" + (char) c + ":h]9", isRight ? 10 : WRONG_AT_0 - 3);
            boolean canFollow = isRight || c == ':';
            dueRead("[q/9" + (char) c, WRONG_AT_0 - (canFollow ? 5 : 4));
        }
        dueRead("[q/11:h]2", 3);
        dueRead("[q/121212:h]2", 4);
        dueRead("[q/3:h]2", 2);
        dueRead("[q/9:h]2", 2);
        dueRead("[q/39:h/2:h]2", 3);
        dueRead("[q/1:]2", 2);
        dueWrong("[q/1::", 5);
        dueWrong("[q/1:2", 5);
        dueRead("[/" + "123456789".repeat(10) + ":q]9", 9);
    }

    private void wrongAtFirst() {
        says(WHERE, "A text is wrong at the first character such that no text of a part begins with the characters "
            + "up to and including it,");
        String[] texts = {"x", "q ", "qx", "q...", "q~.", "r~", "^r", "{1", "{3;", "{3:0", "{3:2}", "{3:2|", "{3:2{3:2{",
            "{3:2{3:2q}]", "[[", "[{3:2q]", "[{3:2q/", "[q/:", "[q/0", "[q/1]", "[q/1:[", "[q]1", "[q]q", "[q]23", "]", "/",
            "}", "q|]", "[q]2}", "{3:2q}}", "[{3:2q}}", "[q}", "[q/1:}", "{2:2{2:2q}q}]"};
        for (String text : texts) {
            int place = text.length() - 1;
            dueWrong(text, place);
            // What follows does not matter, and without this character the beginning is not wrong before its end.
            dueWrong(text + "q}]2", place);
            dueWrong(text + "\"!", place);
            int before = Check.read(new RhythmBench(), 0, text.substring(0, place));
            due("read before " + text, before >= 0 ? WRONG_AT_0 - place : before, WRONG_AT_0 - place);
        }
        dueWrong("x" + "q".repeat(99), 0);
        dueWrong("q".repeat(99) + "x", 99);
    }

    private void wrongAtLength() {
        says(WHERE, "or, if there is no such character but the text is not one of a part, at its length");
        String[] texts = {"^", "r", "{", "{3", "{3:", "{3:2", "{3:2q", "{3:2rq..", "{3:2q~", "{3:2{3:2q", "{3:2{3:2q}",
            "[", "[q", "[|", "[{3:2q", "[{3:2q}", "[q/", "[q/1", "[q/19", "[q/1:", "[q/1:h", "[q/1:h/2", "[q/1:h/2:", "[q]",
            "[q/1:h]", "q|^", "[q]2[q]", "[q]2{2:2^"};
        for (String text : texts) {
            dueWrong(text, text.length());
        }
    }

    private void anyLength() {
        says(WHERE, "(texts of parts are meant here of any length, however many characters the buffer has room for).");
        // Each of these fills the buffer, and would be right with some characters more.
        dueWrong("[" + "q".repeat(99), 100);
        dueWrong("[" + "q".repeat(98) + "]", 100);
        dueWrong("{3:2" + "q".repeat(96), 100);
        dueWrong("q".repeat(99) + "^", 100);
        dueWrong("q".repeat(99) + "r", 100);
        dueWrong("q".repeat(99) + "{", 100);
        dueWrong("q".repeat(99) + "[", 100);
        dueWrong("[" + "q".repeat(94) + "{2:2{", 100);
        dueWrong("[/" + "1".repeat(98), 100);
    }
}
