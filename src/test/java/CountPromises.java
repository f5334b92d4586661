/** The promises 11 to 17, "counting". */
final class CountPromises {
    private static final int LEAST = Integer.MIN_VALUE, MOST = Integer.MAX_VALUE;
    private static final int[] NO_BRAIDS = {-1, 2, 3, LEAST, MOST};
    private static final int[] NO_FLOWS = {-1, 3, 16, LEAST, MOST};

    private final Sentences doc;

    CountPromises(Sentences doc) {
        this.doc = doc;
    }

    void all() {
        count();
        countErrors();
        countFull();
        addBraid();
        newMarks();
        addBraidErrors();
        addBraidFull();
        clear();
        truth();
        rest();
        isMarked();
        above();
    }

    private void count() {
        doc.from("Promise 11");
        doc.says("Lets a flow count.");
        CounterBraid x = Made.threeFlows();
        x.count(1, 0, 21);
        doc.due("truth(1, 0)", x.truth(1, 0), 21);
        doc.due("rest(1, 0)", x.rest(1, 0), 5);
        doc.due("rest(1, 4)", x.rest(1, 4), 5);
        doc.due("isMarked(1, 4)", x.isMarked(1, 4), 1);
        doc.due("total(1, 3), 2 overflows at two places twice", x.total(1, 3), 8);
        doc.due("total(0, 3)", x.total(0, 3), 0);

        doc.says("Recorded.");
        doc.dueRecorded(Made::threeFlows, "count(0, 0, 1)", y -> y.count(0, 0, 1));
        doc.dueRecorded(Made::counted, "count(1, 2, 1000000)", y -> y.count(1, 2, 1000000));

        doc.says("braid: 0 or 1");
        doc.due("count(0, 0, 3)", Made.threeFlows().count(0, 0, 3), 3);
        doc.due("count(1, 0, 3)", Made.threeFlows().count(1, 0, 3), 3);

        doc.says("flow: its number");
        doc.due("count(0, 2, 3)", Made.threeFlows().count(0, 2, 3), 3);
        CounterBraid sixteen = Made.sixteenFlows();
        doc.due("count(0, 15, 3)", sixteen.count(0, 15, 3), 3);
        doc.due("truth(0, 15)", sixteen.truth(0, 15), 3);
        doc.due("truth(0, 14)", sixteen.truth(0, 14), 0);

        doc.says("many: by how much, 1 to 1000000");
        CounterBraid y = Made.threeFlows();
        doc.due("count(0, 1, 1)", y.count(0, 1, 1), 1);
        doc.due("count(0, 1, 1000000)", y.count(0, 1, 1000000), 1000001);
        doc.due("rest(0, 1)", y.rest(0, 1), 1);

        doc.says("Returns the true count then;");
        doc.due("count(0, 1, 5)", y.count(0, 1, 5), 1000006);
        doc.due("count(1, 1, 5)", y.count(1, 1, 5), 5);
        doc.due("count(0, 2, 4)", y.count(0, 2, 4), 4);
        y.undo();
        doc.due("count(0, 2, 5) behind undo()", y.count(0, 2, 5), 5);
    }

    private void countErrors() {
        doc.says("BAD_INDEX if there is no such braid or flow;");
        for (int braid : NO_BRAIDS) {
            doc.dueUnchanged(Made::counted, "count(" + braid + ", 0, 1)", x -> x.count(braid, 0, 1), -2);
        }
        for (int flow : NO_FLOWS) {
            doc.dueUnchanged(Made::counted, "count(0, " + flow + ", 1)", x -> x.count(0, flow, 1), -2);
        }
        doc.dueUnchanged(CounterBraid::new, "count(0, 0, 1) without flows", x -> x.count(0, 0, 1), -2);
        doc.dueUnchanged(Made::sixteenFlows, "count(0, 16, 1) of 16", x -> x.count(0, 16, 1), -2);

        doc.says("BAD_VALUE if many is out of range;");
        for (int many : new int[] {0, 1000001, -1, LEAST, MOST}) {
            doc.dueUnchanged(Made::counted, "count(0, 0, " + many + ")", x -> x.count(0, 0, many), -3);
        }
    }

    private void countFull() {
        doc.says("FULL if the true count would be above 1000000000.");
        doc.dueUnchanged(Made::full, "count(0, 0, 1)", x -> x.count(0, 0, 1), -5);
        doc.dueUnchanged(Made::full, "count(0, 0, 1000000)", x -> x.count(0, 0, 1000000), -5);
        CounterBraid x = Made.threeFlows();
        // 8 times 124998750 leave room for 10000.
        Made.fill(x, 998750);
        doc.due("truth(0, 0)", x.truth(0, 0), 999990000);
        doc.due("count(0, 0, 10001)", x.count(0, 0, 10001), -5);
        doc.due("count(0, 0, 10000)", x.count(0, 0, 10000), 1000000000);
        doc.due("count(0, 0, 1)", x.count(0, 0, 1), -5);
        doc.due("count(0, 1, 1000000) of another flow", x.count(0, 1, 1000000), 1000000);
        doc.due("count(1, 0, 1000000) in the other braid", x.count(1, 0, 1000000), 499995000 + 1000000);
        doc.due("bound(0, 0, true)", x.bound(0, 0, true), 1000000000);
    }

    private void addBraid() {
        doc.from("Promise 12");
        doc.says("Adds a braid to another one.");
        CounterBraid x = Made.counted();
        x.addBraid(1, 0);
        CounterBraid y = Made.threeFlows();
        y.count(0, 0, 5 + 9);
        y.count(0, 1, 20);
        y.count(0, 2, 100 + 17);
        y.count(1, 0, 9);
        y.count(1, 2, 17);
        doc.due("digest() as if all had counted in one braid", x.digest(), y.digest());
        doc.due("bound(0, 2, true)", x.bound(0, 2, true), y.bound(0, 2, true));

        doc.says("Recorded.");
        doc.dueRecorded(Made::counted, "addBraid(0, 1)", z -> z.addBraid(0, 1));
        doc.dueRecorded(CounterBraid::new, "addBraid(1, 0)", z -> z.addBraid(1, 0));

        doc.says("from: the braid that is added");
        CounterBraid from = Made.counted();
        from.addBraid(0, 1);
        doc.due("truth(0, 2)", from.truth(0, 2), 100);
        doc.due("truth(0, 0)", from.truth(0, 0), 5);

        doc.says("to: the other one");
        doc.due("truth(1, 2)", from.truth(1, 2), 117);
        doc.due("truth(1, 0)", from.truth(1, 0), 14);
        doc.due("truth(1, 1)", from.truth(1, 1), 20);
    }

    private void newMarks() {
        doc.says("Returns how many of the marks of the latter are new;");
        doc.due("addBraid(1, 0) without counts", new CounterBraid().addBraid(1, 0), 0);
        CounterBraid x = Made.threeFlows();
        x.count(0, 2, 9);
        doc.due("addBraid(1, 0), marks in braid 0 alone", x.addBraid(1, 0), 0);
        doc.due("addBraid(0, 1), three marks in braid 0", x.addBraid(0, 1), 3);
        doc.due("addBraid(0, 1) again", x.addBraid(0, 1), 0);
        // The rests 7 and 1 give an overflow without a mark in either braid.
        CounterBraid y = Made.threeFlows();
        y.count(0, 0, 7);
        y.count(1, 0, 1);
        doc.due("addBraid(1, 0), two overflows", y.addBraid(1, 0), 2);
        doc.due("addBraid(0, 1), marks that came so", y.addBraid(0, 1), 2);
        CounterBraid z = Made.threeFlows();
        z.count(0, 0, 6);
        z.count(1, 0, 1);
        doc.due("addBraid(1, 0), no overflow", z.addBraid(1, 0), 0);
        // Marked in both, and an overflow as well.
        CounterBraid both = Made.threeFlows();
        both.count(0, 0, 15);
        both.count(1, 0, 15);
        both.count(1, 1, 8);
        doc.due("addBraid(1, 0), two of four marks are new", both.addBraid(1, 0), 2);
        CounterBraid all = new CounterBraid();
        all.setFirst(2, 1, 4);
        all.addFlow(Made.keysAt(2, 4, 3)[0]);
        all.count(1, 0, 2);
        doc.due("addBraid(1, 0), all marks", all.addBraid(1, 0), 2);
    }

    private void addBraidErrors() {
        doc.says("BAD_INDEX if there is no such braid (either one);");
        for (int braid : NO_BRAIDS) {
            doc.dueUnchanged(Made::counted, "addBraid(" + braid + ", 0)", x -> x.addBraid(braid, 0), -2);
            doc.dueUnchanged(Made::counted, "addBraid(1, " + braid + ")", x -> x.addBraid(1, braid), -2);
            doc.dueUnchanged(Made::counted, "addBraid(" + braid + ") to itself", x -> x.addBraid(braid, braid), -2);
        }

        doc.says("BAD_VALUE if both are the same;");
        doc.dueUnchanged(Made::counted, "addBraid(0, 0)", x -> x.addBraid(0, 0), -3);
        doc.dueUnchanged(Made::counted, "addBraid(1, 1)", x -> x.addBraid(1, 1), -3);
        doc.dueUnchanged(CounterBraid::new, "addBraid(0, 0)", x -> x.addBraid(0, 0), -3);
    }

    private void addBraidFull() {
        doc.says("FULL if a true count would be above 1000000000.");
        doc.dueUnchanged(Made::full, "addBraid(1, 0)", x -> x.addBraid(1, 0), -5);
        doc.dueUnchanged(Made::full, "addBraid(0, 1)", x -> x.addBraid(0, 1), -5);
        CounterBraid x = Made.threeFlows();
        Made.fill(x, 1000000);
        x.clear(1);
        doc.due("addBraid(1, 0), nothing to add", x.addBraid(1, 0), 0);
        doc.due("truth(0, 0)", x.truth(0, 0), 1000000000);
        doc.due("addBraid(0, 1) of 1000 million", x.addBraid(0, 1), 2);
        doc.due("truth(1, 0)", x.truth(1, 0), 1000000000);
        x.clear(1);
        x.count(1, 0, 1);
        doc.due("addBraid(1, 0) of one too many", x.addBraid(1, 0), -5);
        doc.due("addBraid(0, 1) of one too many", x.addBraid(0, 1), -5);
        x.clear(1);
        x.count(1, 1, 1);
        doc.due("addBraid(1, 0) of another flow", x.addBraid(1, 0), 0);
        doc.due("truth(0, 1)", x.truth(0, 1), 1);
        // The flow that would be too great is the last of 16.
        CounterBraid last = new CounterBraid();
        for (int key = 0; key < 16; key++) {
            last.addFlow(key);
        }
        for (int turn = 0; turn < 126; turn++) {
            last.count(0, 15, 1000000);
        }
        for (int turn = 0; turn < 2; turn++) {
            last.addBraid(0, 1);
            last.addBraid(1, 0);
        }
        doc.due("truth(0, 15)", last.truth(0, 15), 630000000);
        doc.due("truth(1, 15)", last.truth(1, 15), 378000000);
        doc.due("addBraid(1, 0) of the last flow", last.addBraid(1, 0), -5);
    }

    private void clear() {
        doc.from("Promise 13");
        doc.says("Sets all counters, marks and true counts of a braid to 0.");
        for (int braid = 0; braid < 2; braid++) {
            CounterBraid x = Made.counted();
            x.clear(braid);
            for (int counter = 0; counter < 12; counter++) {
                doc.due("rest(" + braid + ", " + counter + ")", x.rest(braid, counter), 0);
                doc.due("isMarked(" + braid + ", " + counter + ")", x.isMarked(braid, counter), 0);
            }
            for (int counter = 0; counter < 6; counter++) {
                doc.due("above(" + braid + ", " + counter + ")", x.above(braid, counter), 0);
            }
            for (int flow = 0; flow < 3; flow++) {
                doc.due("truth(" + braid + ", " + flow + ")", x.truth(braid, flow), 0);
            }
            doc.due("the other braid's true counts", x.total(1 - braid, 0), braid == 0 ? 26 : 125);
            doc.due("the other braid's rest", x.rest(1 - braid, 1), braid == 0 ? 1 : 0);
            doc.due("the other braid's mark", x.isMarked(1 - braid, 1), 1);
            doc.due("the other braid's numbers", x.total(1 - braid, 3), Made.counted().total(1 - braid, 3));
            doc.due("form(6)", x.form(6), 3);
        }

        doc.says("Recorded.");
        doc.dueRecorded(Made::counted, "clear(0)", x -> x.clear(0));
        doc.dueRecorded(Made::counted, "clear(1)", x -> x.clear(1));
        doc.dueRecorded(CounterBraid::new, "clear(1)", x -> x.clear(1));

        doc.says("braid: 0 or 1");
        doc.due("clear(0)", Made.counted().clear(0), 125);
        doc.due("clear(1)", Made.counted().clear(1), 26);

        doc.says("Returns the sum of its true counts;");
        CounterBraid x = Made.counted();
        doc.due("clear(0)", x.clear(0), 125);
        doc.due("clear(0) again", x.clear(0), 0);
        doc.due("clear(0) of a new object", new CounterBraid().clear(0), 0);
        CounterBraid most = Made.sixteenFlows();
        most.setFirst(2, 1, 4);
        for (int flow = 0; flow < 16; flow++) {
            for (int turn = 0; turn < 16; turn++) {
                most.count(0, flow, 1000000);
            }
        }
        for (int turn = 0; turn < 2; turn++) {
            most.addBraid(0, 1);
            most.addBraid(1, 0);
        }
        most.addBraid(0, 1);
        most.addBraid(1, 0);
        doc.due("clear(0), above the greatest int", most.clear(0), 16 * 16000000L * 13);

        doc.says("BAD_INDEX if there is no such braid.");
        for (int braid : NO_BRAIDS) {
            doc.dueUnchanged(Made::counted, "clear(" + braid + ")", y -> y.clear(braid), -2);
        }
    }

    private void truth() {
        doc.from("Promise 14");
        doc.says("Returns the true count of a flow.");
        doc.dueUnchanged(Made::counted, "truth(0, 1)", x -> x.truth(0, 1), 20);

        doc.says("braid: 0 or 1");
        doc.due("truth(0, 2)", Made.counted().truth(0, 2), 100);
        doc.due("truth(1, 2)", Made.counted().truth(1, 2), 17);

        doc.says("flow: its number");
        doc.due("truth(0, 0)", Made.counted().truth(0, 0), 5);
        doc.due("truth(0, 15)", Made.sixteenFlows().truth(0, 15), 0);

        doc.says("Returns the true count;");
        doc.due("truth(1, 1)", Made.counted().truth(1, 1), 0);
        doc.due("truth(0, 0)", Made.full().truth(0, 0), 1000000000);

        doc.says("BAD_INDEX if there is no such braid or flow.");
        for (int braid : NO_BRAIDS) {
            doc.dueUnchanged(Made::counted, "truth(" + braid + ", 0)", x -> x.truth(braid, 0), -2);
        }
        for (int flow : NO_FLOWS) {
            doc.dueUnchanged(Made::counted, "truth(1, " + flow + ")", x -> x.truth(1, flow), -2);
        }
    }

    /** A call for a counter, or a flow, of a braid. */
    private interface CounterCall {
        long on(CounterBraid x, int braid, int counter);
    }

    private void dueNoCounter(String name, int counters, CounterCall call) {
        for (int braid : NO_BRAIDS) {
            doc.dueUnchanged(Made::counted, name + "(" + braid + ", 0)", x -> call.on(x, braid, 0), -2);
        }
        for (int counter : new int[] {-1, counters, counters + 1, 24, LEAST, MOST}) {
            doc.dueUnchanged(Made::counted, name + "(0, " + counter + ")", x -> call.on(x, 0, counter), -2);
            doc.dueUnchanged(Made::counted, name + "(1, " + counter + ")", x -> call.on(x, 1, counter), -2);
        }
    }

    private void rest() {
        doc.from("Promise 15");
        doc.says("Returns the rest of a counter of the first layer.");
        doc.dueUnchanged(Made::counted, "rest(0, 9)", x -> x.rest(0, 9), 20 % 8);

        doc.says("braid: 0 or 1");
        doc.due("rest(0, 5)", Made.counted().rest(0, 5), 100 % 8);
        doc.due("rest(1, 5)", Made.counted().rest(1, 5), 17 % 8);

        doc.says("counter: 0 to M - 1");
        doc.due("rest(0, 0)", Made.counted().rest(0, 0), 5);
        doc.due("rest(0, 11)", Made.counted().rest(0, 11), 0);
        for (int m = 2; m <= 24; m++) {
            CounterBraid x = Made.braid(new int[] {m, 8, 1, 1, 1, 1}, Made.keysAt(m, 1, 1, 1 << m - 1), new int[] {7, 200});
            doc.due("rest(0, 0) of " + m, x.rest(0, 0), 7);
            doc.due("rest(0, " + (m - 1) + ")", x.rest(0, m - 1), 200);
            doc.due("rest(0, " + m + ")", x.rest(0, m), -2);
        }

        doc.says("Returns the rest;");
        CounterBraid y = Made.braid(new int[] {2, 8, 1, 1, 1, 1}, Made.keysAt(2, 1, 1), new int[] {255});
        doc.due("rest(0, 0)", y.rest(0, 0), 255);
        y.count(0, 0, 1);
        doc.due("rest(0, 0), one more", y.rest(0, 0), 0);
        y.count(0, 0, 511);
        doc.due("rest(0, 0), 511 more", y.rest(0, 0), 255);

        doc.says("BAD_INDEX if there is no such braid or counter.");
        dueNoCounter("rest", 12, (x, braid, counter) -> x.rest(braid, counter));
    }

    private void isMarked() {
        doc.from("Promise 16");
        doc.says("Tells whether a counter of the first layer is marked.");
        doc.dueUnchanged(Made::counted, "isMarked(0, 1)", x -> x.isMarked(0, 1), 1);
        doc.dueUnchanged(Made::counted, "isMarked(0, 0)", x -> x.isMarked(0, 0), 0);

        doc.says("braid: 0 or 1");
        doc.due("isMarked(0, 4)", Made.counted().isMarked(0, 4), 0);
        doc.due("isMarked(1, 4)", Made.counted().isMarked(1, 4), 1);

        doc.says("counter: 0 to M - 1");
        for (int m = 2; m <= 24; m++) {
            CounterBraid x = Made.braid(new int[] {m, 1, 1, 1, 1, 1}, Made.keysAt(m, 1, 1, 1 << m - 1), new int[] {2, 1});
            doc.due("isMarked(0, 0) of " + m, x.isMarked(0, 0), 1);
            doc.due("isMarked(0, " + (m - 1) + ")", x.isMarked(0, m - 1), 0);
            x.count(0, 1, 1);
            doc.due("isMarked(0, " + (m - 1) + "), one more", x.isMarked(0, m - 1), 1);
            doc.due("isMarked(0, " + m + ")", x.isMarked(0, m), -2);
        }

        doc.says("Returns 1 if it is, else 0;");
        CounterBraid y = Made.threeFlows();
        y.count(0, 0, 7);
        doc.due("isMarked(0, 0), 7", y.isMarked(0, 0), 0);
        y.count(0, 0, 1);
        doc.due("isMarked(0, 0), 8", y.isMarked(0, 0), 1);
        y.count(0, 0, 800);
        doc.due("isMarked(0, 0), more overflows", y.isMarked(0, 0), 1);
        y.undo();
        y.undo();
        doc.due("isMarked(0, 0) behind undo()", y.isMarked(0, 0), 0);

        doc.says("BAD_INDEX if there is no such braid or counter.");
        dueNoCounter("isMarked", 12, (x, braid, counter) -> x.isMarked(braid, counter));
    }

    private void above() {
        doc.from("Promise 17");
        doc.says("Returns a counter of the second layer.");
        // The overflow of the counter 9 is 2; its values are 174 - 103 and 344 - 309 ahead of "modulo 6".
        CounterBraid nine = Made.braid(new int[] {12, 3, 1, 6, 2, 20}, Made.keysAt(12, 1, 1 << 9), new int[] {20});
        doc.due("above(0, 5)", nine.above(0, 5), 2);
        doc.due("total(0, 3)", nine.total(0, 3), 2);
        // Of the places 0, 4, 1, 9, 5 and 8 of the flows the counter 1 alone, with 20 + 100, has the place 0 above.
        doc.dueUnchanged(Made::counted, "above(0, 0)", x -> x.above(0, 0), 120 / 8);

        doc.says("braid: 0 or 1");
        CounterBraid y = Made.threeFlows();
        y.count(1, 0, 80);
        doc.due("above(0, 3)", y.above(0, 3), 0);
        doc.due("above(1, 3)", y.above(1, 3), 10);

        doc.says("counter: 0 to N - 1");
        for (int n = 1; n <= 16; n++) {
            CounterBraid x = new CounterBraid();
            x.setFirst(24, 1, 1);
            x.setSecond(n, 1);
            x.addFlow(Made.keysAt(24, 1, 1 << Made.counterAt(n, 1, 1 << n - 1))[0]);
            x.count(1, 0, 14);
            doc.due("above(1, " + (n - 1) + ")", x.above(1, n - 1), 7);
            doc.due("above(1, " + n + ")", x.above(1, n), -2);
            doc.due("above(1, 0) of " + n, x.above(1, 0), n == 1 ? 7 : 0);
        }

        doc.says("Returns its number;");
        doc.due("above(0, 3)", Made.full().above(0, 3), Made.full().truth(0, 0) / 8 * numbersAt(3));

        doc.says("BAD_INDEX if there is no such braid or counter.");
        dueNoCounter("above", 6, (x, braid, counter) -> x.above(braid, counter));
    }

    /** How many counters of the flow with the key 0 have this place in the second layer. */
    private static int numbersAt(int place) {
        int numbers = 0;
        for (int counter = 0; counter < 12; counter++) {
            if ((Made.placesOfKey(0, 12, 3) >> counter & 1) == 1) {
                numbers += Made.placesOfCounter(counter, 6, 2) >> place & 1;
            }
        }
        return numbers;
    }
}
