/** Compares answers with those that are due, and ends a test with exit code 1 if one was wrong. */
final class Check {
    private int wrong = 0;
    private int made = 0;
    private int madeBefore = -1;
    private String sentence = "";

    /** Names the sentence of the document that the answers from here on are due to. */
    void says(String promise, String words) {
        endSentence();
        sentence = promise + " \"" + words + "\": ";
        madeBefore = made;
    }

    private void endSentence() {
        if (made == madeBefore) {
            fault("it is named, but not tested");
        }
        sentence = "";
        madeBefore = -1;
    }

    void fault(String what) {
        wrong++;
        System.out.println(sentence + what);
    }

    void due(String call, long got, long want) {
        made++;
        if (got != want) {
            fault(call + " answered " + got + ", due is " + want);
        }
    }

    /** Compares both sides of a fraction. */
    void dueFraction(String call, long numerator, long denominator, long wantNumerator, long wantDenominator) {
        due(call + " numerator", numerator, wantNumerator);
        due(call + " denominator", denominator, wantDenominator);
    }

    void end() {
        endSentence();
        System.out.println(wrong == 0 ? made + " answers are as due" : wrong + " answers are not as due");
        if (wrong != 0) {
            System.exit(1);
        }
    }

    static void type(RhythmBench bench, String text) {
        for (int k = 0; k < text.length(); k++) {
            bench.type(text.charAt(k));
        }
    }

    /** Types a text into an empty buffer and reads it; a text that is refused is cleared away. */
    static int read(RhythmBench bench, int part, String text) {
        bench.clear();
        type(bench, text);
        int answer = bench.read(part);
        bench.clear();
        return answer;
    }

    static RhythmBench with(String text) {
        RhythmBench bench = new RhythmBench();
        int answer = read(bench, 0, text);
        if (answer < 0) {
            throw new IllegalStateException("the test's text '" + text + "' was refused: " + answer);
        }
        return bench;
    }

    static String textOf(RhythmBench bench, int part) {
        StringBuilder text = new StringBuilder();
        for (int k = 0; bench.textOf(part, k) != RhythmBench.NONE; k++) {
            text.append((char) bench.textOf(part, k));
        }
        return text.toString();
    }

    static String unfolded(RhythmBench bench, int part) {
        StringBuilder text = new StringBuilder();
        for (int k = 0; bench.unfolded(part, k) != RhythmBench.NONE; k++) {
            text.append((char) bench.unfolded(part, k));
        }
        return text.toString();
    }

    void dueText(String call, String got, String want) {
        made++;
        if (!got.equals(want)) {
            fault(call + " answered '" + got + "', due is '" + want + "'");
        }
    }
}
