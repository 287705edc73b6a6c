/** The promises 23 to 28: parts together, undo and fingerprint. */
final class SentencesOfParts extends Sentences {
    private static final int LEAST = Integer.MIN_VALUE;
    private static final int GREATEST = Integer.MAX_VALUE;
    private static final String FIFTY = "q".repeat(50);
    private static final String W25 = "w".repeat(25);

    SentencesOfParts(Check check, Document document) {
        super(check, document);
    }

    @Override
    void test() {
        times();
        time();
        timeErrors();
        cycle();
        cycleErrors();
        meets();
        meetsErrors();
        undo();
        fingerprint();
    }

    private void times() {
        String where = "Promise 23";
        says(where, "Returns the number of different times at which events of any part begin (each part played once, all beginning at 0).");
        due("one part", bench("qqq").times(), 3);
        due("the same part twice", bench("qqq", "qqq").times(), 3);
        due("a longer part", bench("qqq", "qqqq").times(), 4);
        due("parts that never meet", bench("rqq", "qrq", "{3:2rqq}", "req").times(), 4);
        due("all four", bench("q", "q", "q", "q").times(), 1);
        due("only the last part", bench("", "", "", "hh").times(), 2);
        due("each part once, not in a loop", bench("q", "qqqq").times(), 4);
        says(where, "Returns the number of times.");
        due("no events", new RhythmBench().times(), 0);
        due("rests and bar lines alone", bench("rq", "|", "[]2").times(), 0);
        due("the most", most().times(), 1197);
        RhythmBench bench = bench("qq", "{3:2hhh}");
        due("first", bench.times(), 4);
        due("asked again", bench.times(), 4);
        bench.undo();
        due("after undo", bench.times(), 2);
    }

    /** 300 events in the first part and 299 behind a short rest in each other one, of which no two begin together. */
    private static RhythmBench most() {
        String many = "[" + "q".repeat(46) + "]6" + "q".repeat(23);
        return bench("[" + FIFTY + "]6", "{5:2{5:2rt}}" + many, "{7:2{7:2rt}}" + many, "{9:2{9:2rt}}" + many);
    }

    private void time() {
        String where = "Promise 24";
        says(where, "Returns one of these times.");
        RhythmBench bench = bench("qqqq", "{3:2qqq}rh", "req.h", "w");
        long[][] due = {{0, 1, 11}, {1, 8, 4}, {1, 6, 2}, {1, 4, 1}, {1, 3, 2}, {1, 2, 5}, {3, 4, 1}};
        for (int i = 0; i < due.length; i++) {
            dueFraction("time " + i, bench.time(i, 0), bench.time(i, 1), due[i][0], due[i][1]);
        }
        says(where, "`i`: its index in ascending order, from 0");
        due("the first", bench.time(0, 1), 1);
        due("the last", bench.time(6, 1), 4);
        RhythmBench late = bench("rwq", "rqq", "rhq", "req");
        long[] downs = {8, 4, 2, 1};
        for (int i = 0; i < 4; i++) {
            dueFraction("time " + i, late.time(i, 0), late.time(i, 1), 1, downs[i]);
        }
        RhythmBench most = most();
        dueFraction("the last of many", most.time(most.times() - 1, 0), most.time(most.times() - 1, 1), 299, 4);
        says(where, "`what`: 0 or 1, or 2 for the set of parts that have an event beginning then, bit k for part k");
        for (int i = 0; i < due.length; i++) {
            due("set " + i, bench.time(i, 2), due[i][2]);
        }
        for (int set = 1; set < 16; set++) {
            due("set", ofSet(set).time(0, 2), set);
        }
        long[] bits = {8, 2, 4, 1};
        for (int i = 0; i < 4; i++) {
            due("set " + i, late.time(i, 2), bits[i]);
        }
    }

    /** Only the parts of a set have an event. */
    private static RhythmBench ofSet(int set) {
        RhythmBench bench = new RhythmBench();
        for (int part = 0; part < 4; part++) {
            Check.read(bench, part, (set >> part & 1) == 1 ? "req" : "rqrh");
        }
        return bench;
    }

    private void timeErrors() {
        says("Promise 24", "Returns the time, or the set; BAD if there is no such time, or what is not in its range.");
        RhythmBench bench = bench("qqqq", "{3:2qqq}rh", "req.h", "w");
        for (int what = 0; what <= 2; what++) {
            for (int i : new int[] {-1, 7, 8, 1200, 1201, LEAST, GREATEST}) {
                due("time " + i + " " + what, bench.time(i, what), BAD);
            }
            due("time of none", new RhythmBench().time(0, what), BAD);
            due("time of rests", bench("rq", "rh").time(0, what), BAD);
        }
        for (int what : new int[] {-1, 3, LEAST, GREATEST}) {
            due("what " + what, bench.time(0, what), BAD);
        }
        RhythmBench most = most();
        due("behind the last of many", most.time(most.times(), 0), BAD);
    }

    private void cycle() {
        String where = "Promise 25";
        says(where, "Returns the cycle of two parts.");
        RhythmBench bench = bench("q", "q.", "{3:2q}", "w");
        dueCycle(bench, 0, 1, 3, 4);
        dueCycle(bench, 1, 0, 3, 4);
        dueCycle(bench, 0, 2, 1, 2);
        dueCycle(bench, 1, 2, 3, 2);
        says(where, "`p`: 0 to 3");
        dueCycle(bench, 0, 0, 1, 4);
        dueCycle(bench, 3, 1, 3, 1);
        says(where, "`q`: 0 to 3");
        dueCycle(bench, 1, 0, 3, 4);
        dueCycle(bench, 1, 3, 3, 1);
        for (int part = 0; part < 4; part++) {
            dueCycle(bench, part, part, bench.length(part, 0), bench.length(part, 1));
        }
        says(where, "`what`: 0 or 1");
        due("what 0", bench.cycle(0, 1, 0), 3);
        due("what 1", bench.cycle(0, 1, 1), 4);
    }

    private void cycleErrors() {
        String where = "Promise 25";
        says(where, "Returns the cycle; BAD if there is no such part, or what is not 0 or 1;");
        RhythmBench bench = bench("q", "h", "");
        for (int part : NO_PARTS) {
            due("p " + part, bench.cycle(part, 0, 0), BAD);
            due("q " + part, bench.cycle(0, part, 1), BAD);
            due("p and q " + part, bench.cycle(part, part, 0), BAD);
        }
        for (int what : NO_SIDES) {
            due("what " + what, bench.cycle(0, 1, what), BAD);
        }
        says(where, "STATE if the length of one of them is 0;");
        for (int what = 0; what <= 1; what++) {
            due("q has no length", bench.cycle(0, 2, what), STATE);
            due("p has no length", bench.cycle(2, 0, what), STATE);
            due("neither has one", bench.cycle(2, 3, what), STATE);
            due("the same part", bench.cycle(2, 2, what), STATE);
            due("bar lines alone", bench("q", "|||").cycle(0, 1, what), STATE);
        }
        dueCycle(bench("q", "rq"), 0, 1, 1, 4);
        dueCycle(bench("{9:2{9:2t}}"), 0, 0, 1, 648);
        says(where, "FULL if the cycle is longer than 1000 whole notes.");
        dueCycle(bench("[" + W25 + "]5", "wwwwwwww"), 0, 1, 1000, 1);
        dueCycle(bench("[" + W25 + "]8", "[" + W25 + "]5"), 0, 1, 1000, 1);
        dueCycle(bench("[" + "q".repeat(31) + "]3", "q".repeat(43)), 0, 1, 3999, 4);
        dueTooLong("[" + "w".repeat(13) + "]7", "wwwwwwwwwww");
        dueTooLong("[" + "h".repeat(29) + "]3", "h".repeat(23));
        // 127/8 and 63/8 have the cycle 1000 + 1/8.
        dueTooLong("[" + "e".repeat(63) + "]2e", "e".repeat(63));
        // Lengths themselves can be longer than 1000.
        String longest = "[{2:9{2:9" + "w..".repeat(28) + "}}]9";
        dueTooLong(longest, longest);
        dueTooLong(longest, "{7:2{7:2t}}");
        // The product of these lengths does not fit a long in any unit that holds both.
        String fine = "{7:2{7:2t}}{5:2{5:2t}}{9:2{9:2t}}{8:3{8:3t..}}";
        dueTooLong(fine, "q" + fine);
        dueTooLong("[{2:9{2:9" + "w..".repeat(12) + "}}]9" + fine, "w" + fine);
    }

    private void dueTooLong(String one, String other) {
        RhythmBench bench = bench(one, other);
        for (int what = 0; what <= 1; what++) {
            due("cycle of " + one + " and " + other, bench.cycle(0, 1, what), FULL);
            due("cycle of " + other + " and " + one, bench.cycle(1, 0, what), FULL);
        }
    }

    private void meets() {
        String where = "Promise 26";
        says(where, "Counts the times of one cycle of two parts in loops at which events of both begin.");
        dueMeets("q", "q", 1);
        dueMeets("qqqq", "qq", 4);
        dueMeets("qqq", "qq", 6);
        dueMeets("{3:2qqq}", "qq", 1);
        dueMeets("rqrqq", "qq", 2);
        dueMeets("q~qe", "e", 2);
        says(where, "`p`: 0 to 3");
        RhythmBench bench = bench("q", "qq", "qqq", "qqqq");
        for (int part = 0; part < 4; part++) {
            due("meets " + part + " 0", bench.meets(part, 0), part + 1);
        }
        says(where, "`q`: 0 to 3");
        for (int part = 0; part < 4; part++) {
            due("meets 0 " + part, bench.meets(0, part), part + 1);
            due("meets of the same part", bench.meets(part, part), part + 1);
        }
        says(where, "Returns the number of times from 0 (included) to the cycle (not included);");
        // They meet at 0, and would meet again at the cycle.
        dueMeets("w", "w", 1);
        dueMeets("h", "h.", 1);
        dueMeets("rqq", "rqq", 1);
        dueMeets("rqqrq", "rqqrq", 1);
        dueMeets("rqq", "qrq", 0);
        dueMeets("rq", "q", 0);
        dueMeets("[" + FIFTY + "]6", "[" + FIFTY + "]6", 300);
        dueMeets("[" + W25 + "]5", "wwwwwwww", 1000);
        dueMeets("[" + W25 + "]5", "rwrwrwrwrwrwrww", 125);
        // In 1000 whole notes the first part goes round 8 times, and each of its 160 events is on the other's eighths.
        dueMeets("[" + "w".repeat(24) + "eeeeeeee]5", "[eeeeeeee]8", 1280);
    }

    private void dueMeets(String one, String other, int want) {
        RhythmBench bench = bench(one, other);
        due("meets " + one + " " + other, bench.meets(0, 1), want);
        due("meets " + other + " " + one, bench.meets(1, 0), want);
    }

    private void meetsErrors() {
        String where = "Promise 26";
        says(where, "BAD if there is no such part;");
        RhythmBench bench = bench("q", "h", "");
        for (int part : NO_PARTS) {
            due("p " + part, bench.meets(part, 0), BAD);
            due("q " + part, bench.meets(0, part), BAD);
        }
        says(where, "STATE and FULL as cycle().");
        due("q has no length", bench.meets(0, 2), STATE);
        due("p has no length", bench.meets(2, 0), STATE);
        due("the same part", bench.meets(3, 3), STATE);
        due("1000 whole notes", bench("[" + W25 + "]5", "wwwwwwww").meets(0, 1), 1000);
        due("1001 whole notes", bench("[" + "w".repeat(13) + "]7", "wwwwwwwwwww").meets(0, 1), FULL);
        due("too long without events", bench("[" + "rw".repeat(13) + "]7", "rwrwrwrwrwrwrwrwrwrwrw").meets(0, 1), FULL);
        String longest = "[{2:9{2:9" + "w..".repeat(28) + "}}]9";
        due("the same long part", bench(longest).meets(0, 0), FULL);
    }

    private void undo() {
        String where = "Promise 27";
        says(where, "Undoes the latest act.");
        RhythmBench bench = bench("q");
        bench.setMeter(3, 4);
        bench.undo();
        due("the meter", bench.setMeter(5, 4), 404);
        dueText("the text", Check.textOf(bench, 0), "q");
        says(where, "Returns how many states the history still has;");
        due("one is left", bench.undo(), 1);
        due("none is left", bench.undo(), 0);
        RhythmBench many = new RhythmBench();
        for (int k = 1; k <= 9; k++) {
            many.setSwing(k, k);
        }
        for (int left = 4; left >= 0; left--) {
            due("undo", many.undo(), left);
        }
        due("the swing before the five latest acts", many.setSwing(1, 1), 44);
        says(where, "NONE if it has none.");
        due("behind the last state", bench.undo(), NONE);
        due("again", bench.undo(), NONE);
        due("a new object", new RhythmBench().undo(), NONE);
        due("an act after that", bench.setSwing(2, 2), 11);
        due("is undone", bench.undo(), 0);
    }

    private void fingerprint() {
        String where = "Promise 28";
        says(where, "Returns a fingerprint. It starts as 71; then, for each of the following numbers, in this order, it becomes 31 times "
            + "itself plus the number, in long arithmetic with overflow: for each part the length of its text and the codes of its "
            + "characters; the beats and the value of the meter, both numbers of the swing.");
        RhythmBench bench = new RhythmBench();
        due("a new object", bench.fingerprint(), print(new String[] {"", "", "", ""}, 4, 4, 1, 1));
        String[] texts = {"q~|[{3:2^s}/1:rt..]2", "", "h", "q".repeat(100)};
        for (int part = 0; part < 4; part++) {
            Check.read(bench, part, texts[part]);
        }
        bench.setMeter(7, 16);
        bench.setSwing(5, 3);
        due("with overflow", bench.fingerprint(), print(texts, 7, 16, 5, 3));
        says(where, "Returns the fingerprint.");
        due("asked again", bench.fingerprint(), print(texts, 7, 16, 5, 3));
        Check.type(bench, "qq");
        due("the buffer does not count", bench.fingerprint(), print(texts, 7, 16, 5, 3));
        bench.undo();
        due("nor does the history", bench.fingerprint(), print(texts, 7, 16, 1, 1));
        // 71 * 31^8 + 4 * 31^3 + 4 * 31^2 + 31 + 1, since the four lengths are 0.
        due("written out", new RhythmBench().fingerprint(), 60555263781351L);
    }

    private static long print(String[] texts, int... numbers) {
        long print = 71;
        for (String text : texts) {
            print = 31 * print + text.length();
            for (int k = 0; k < text.length(); k++) {
                print = 31 * print + text.charAt(k);
            }
        }
        for (int number : numbers) {
            print = 31 * print + number;
        }
        return print;
    }
}
