/** "Flows, places" in the document's description. */
final class FlowSentences {
    private final Sentences doc;

    FlowSentences(Sentences doc) {
        this.doc = doc;
    }

    void all() {
        doc.from("Flows, places");
        flows();
        keys();
        braids();
        trueCounts();
        formOfBoth();
        layers();
        functions();
        functionsOfFlows();
        functionsOfCounters();
        placesOfFlows();
        placesOfCounters();
    }

    private void flows() {
        doc.says("There are at most 16 flows, numbered from 0 in the order in which they were added.");
        CounterBraid x = new CounterBraid();
        for (int flow = 0; flow < 16; flow++) {
            doc.due("addFlow of the flow " + flow, x.addFlow(990 - 60 * flow), flow);
            doc.due("form(6)", x.form(6), flow + 1);
        }
        doc.due("addFlow of a 17th flow", x.addFlow(1), -5);
        doc.due("form(6)", x.form(6), 16);
        for (int flow = 0; flow < 16; flow++) {
            doc.due("key(" + flow + ")", x.key(flow), 990 - 60 * flow);
        }
        x.undo();
        doc.due("the number of a flow that was undone", x.addFlow(2), 15);
        CounterBraid y = Made.withText("9;3+2;9;5");
        y.load();
        int[] keys = {9, 3, 5};
        for (int flow = 0; flow < 3; flow++) {
            doc.due("key(" + flow + ") behind load()", y.key(flow), keys[flow]);
        }
        doc.due("key(3) behind load()", y.key(3), -2);
    }

    private void keys() {
        doc.says("A flow has a key, 0 to 999, another one each.");
        CounterBraid x = new CounterBraid();
        doc.due("addFlow(-1)", x.addFlow(-1), -3);
        doc.due("addFlow(0)", x.addFlow(0), 0);
        doc.due("addFlow(999)", x.addFlow(999), 1);
        doc.due("addFlow(1000)", x.addFlow(1000), -3);
        doc.due("addFlow(0) again", x.addFlow(0), -4);
        doc.due("addFlow(999) again", x.addFlow(999), -4);
        doc.due("key(0)", x.key(0), 0);
        doc.due("key(1)", x.key(1), 999);
        Made.typeAll(x, "0;999;000");
        doc.due("load() of the same keys", x.load(), 2);
    }

    private void braids() {
        doc.says("There are two braids, 0 and 1.");
        Call[][] calls = new Call[4][];
        for (int i = 0; i < calls.length; i++) {
            calls[i] = callsOfBraid(i - 1);
        }
        for (int call = 0; call < calls[0].length; call++) {
            for (int braid = -1; braid <= 2; braid++) {
                long got = calls[braid + 1][call].on(Made.counted());
                boolean isThere = braid == 0 || braid == 1;
                doc.due("call " + call + " of the braid " + braid + " is refused", got == -2 ? 1 : 0, isThere ? 0 : 1);
            }
        }
        CounterBraid x = Made.threeFlows();
        x.count(1, 2, 50);
        for (int counter = 0; counter < 12; counter++) {
            doc.due("rest(0, " + counter + ")", x.rest(0, counter), 0);
            doc.due("isMarked(0, " + counter + ")", x.isMarked(0, counter), 0);
        }
        doc.due("truth(0, 2)", x.truth(0, 2), 0);
        doc.due("truth(1, 2)", x.truth(1, 2), 50);
        doc.due("total(0, 3)", x.total(0, 3), 0);
    }

    private static Call[] callsOfBraid(int b) {
        return new Call[] {x -> x.count(b, 0, 1), x -> x.addBraid(b, b == 0 ? 1 : 0), x -> x.addBraid(b == 0 ? 1 : 0, b),
            x -> x.clear(b), x -> x.truth(b, 0), x -> x.rest(b, 0), x -> x.isMarked(b, 0), x -> x.above(b, 0),
            x -> x.overflow(b, 0, true), x -> x.overflow(b, 0, false), x -> x.bound(b, 0, true), x -> x.bound(b, 0, false),
            x -> x.boundAfter(b, 0, true, 0), x -> x.boundAfter(b, 0, false, 1), x -> x.certain(b),
            x -> x.certainOverflows(b), x -> x.lastRound(b), x -> x.total(b, 0), x -> x.total(b, 1), x -> x.total(b, 2),
            x -> x.total(b, 3), x -> x.estimate(b, 0), x -> x.leastPlace(b, 0), x -> x.widest(b), x -> x.leastSpace(b)};
    }

    private void trueCounts() {
        doc.says("For each flow and each braid the true count is known, 0 at first;");
        CounterBraid x = Made.counted();
        x.addFlow(5);
        long[][] truths = {{5, 20, 100, 0}, {9, 0, 17, 0}};
        for (int braid = 0; braid < 2; braid++) {
            for (int flow = 0; flow < 4; flow++) {
                doc.due("truth(" + braid + ", " + flow + ")", x.truth(braid, flow), truths[braid][flow]);
            }
        }

        doc.says("it is not used for decoding.");
        // Both flows have the same places, so the counters can't tell 3 and 4 from 4 and 3, nor from 7 and 0.
        int[][] counts = {{3, 4}, {4, 3}, {6, 1}};
        int[] form = {2, 8, 1, 1, 1, 60};
        for (int[] row : counts) {
            CounterBraid y = Made.braid(form, Made.keysAt(2, 1, 1, 1), row);
            for (int flow = 0; flow < 2; flow++) {
                doc.due("bound(0, " + flow + ", false)", y.bound(0, flow, false), 0);
                doc.due("bound(0, " + flow + ", true)", y.bound(0, flow, true), 7);
                doc.due("estimate(0, " + flow + ")", y.estimate(0, flow), 3);
            }
            doc.due("certain(0)", y.certain(0), 0);
        }
    }

    private void formOfBoth() {
        doc.says("All braids have the same form:");
        CounterBraid x = new CounterBraid();
        x.setFirst(3, 2, 1);
        x.setSecond(2, 3);
        x.addFlow(0);
        // The flow 0 has the place 5 modulo 3; the counter 2 has the places 41, 85 and 145 - 103, modulo 2.
        for (int braid = 0; braid < 2; braid++) {
            x.count(braid, 0, 7);
            doc.due("rest(" + braid + ", 2)", x.rest(braid, 2), 3);
            doc.due("rest(" + braid + ", 3)", x.rest(braid, 3), -2);
            doc.due("above(" + braid + ", 0)", x.above(braid, 0), 1);
            doc.due("above(" + braid + ", 1)", x.above(braid, 1), 1);
            doc.due("above(" + braid + ", 2)", x.above(braid, 2), -2);
        }
    }

    private void layers() {
        doc.says("M counters in the first layer, 2 to 24 (12 at first),");
        CounterBraid x = new CounterBraid();
        dueCounters(x, 12);
        for (int m = 2; m <= 24; m++) {
            x.setFirst(m, 3, 3);
            dueCounters(x, m);
        }
        doc.due("setFirst(1, 3, 3)", x.setFirst(1, 3, 3), -3);
        doc.due("setFirst(25, 3, 3)", x.setFirst(25, 3, 3), -3);
        dueCounters(x, 24);

        doc.says("of D bits each, 1 to 8 (3 at first);");
        doc.due("form(1)", new CounterBraid().form(1), 3);
        for (int d = 1; d <= 8; d++) {
            CounterBraid y = Made.braid(new int[] {2, d, 1, 1, 1, 20}, Made.keysAt(2, 1, 2), new int[] {(1 << d) - 1});
            doc.due("rest(0, 1) of " + d + " bits", y.rest(0, 1), (1 << d) - 1);
            doc.due("isMarked(0, 1) of " + d + " bits", y.isMarked(0, 1), 0);
            y.count(0, 0, 1);
            doc.due("rest(0, 1) of " + d + " bits, one more", y.rest(0, 1), 0);
            doc.due("isMarked(0, 1) of " + d + " bits, one more", y.isMarked(0, 1), 1);
        }
        doc.due("setFirst(2, 0, 3)", x.setFirst(2, 0, 3), -3);
        doc.due("setFirst(2, 9, 3)", x.setFirst(2, 9, 3), -3);

        doc.says("N counters in the second layer, 1 to 16 (6 at first);");
        CounterBraid z = new CounterBraid();
        dueCountersAbove(z, 6);
        for (int n = 1; n <= 16; n++) {
            z.setSecond(n, 2);
            dueCountersAbove(z, n);
        }
        doc.due("setSecond(0, 2)", z.setSecond(0, 2), -3);
        doc.due("setSecond(17, 2)", z.setSecond(17, 2), -3);
        dueCountersAbove(z, 16);
    }

    private void dueCounters(CounterBraid x, int m) {
        doc.due("form(0)", x.form(0), m);
        for (int braid = 0; braid < 2; braid++) {
            doc.due("the last rest of " + m, x.rest(braid, m - 1), 0);
            doc.due("the rest behind the last one of " + m, x.rest(braid, m), -2);
        }
        doc.due("certainOverflows(0)", x.certainOverflows(0), (1 << m) - 1);
    }

    private void dueCountersAbove(CounterBraid x, int n) {
        doc.due("form(3)", x.form(3), n);
        for (int braid = 0; braid < 2; braid++) {
            doc.due("the last number of " + n, x.above(braid, n - 1), 0);
            doc.due("the number behind the last one of " + n, x.above(braid, n), -2);
        }
    }

    private void functions() {
        doc.says("K, the number of functions of flows, 1 to 4 (3 at first);");
        CounterBraid x = new CounterBraid();
        x.addFlow(999);
        doc.due("form(2)", x.form(2), 3);
        // The key 999 has the values 604, 296, 68 and 761 ahead of "modulo M".
        doc.due("places(0) at first", x.places(0), (1 << 4) + (1 << 8));
        int[] masks = {1 << 4, (1 << 4) + (1 << 8), (1 << 4) + (1 << 8) + (1 << 20),
            (1 << 4) + (1 << 8) + (1 << 20) + (1 << 17)};
        for (int k = 1; k <= 4; k++) {
            x.setFirst(24, 3, k);
            doc.due("form(2)", x.form(2), k);
            doc.due("places(0) with " + k + " functions", x.places(0), masks[k - 1]);
        }
        doc.due("setFirst(24, 3, 0)", x.setFirst(24, 3, 0), -3);
        doc.due("setFirst(24, 3, 5)", x.setFirst(24, 3, 5), -3);

        doc.says("and Q, the number of functions of counters, 1 to 3 (2 at first).");
        doc.due("form(4)", x.form(4), 2);
        // The counter 23 has the values 28, 38 and 87 ahead of "modulo N".
        doc.due("placesAbove(23) at first", x.placesAbove(23), (1 << 4) + (1 << 2));
        int[] above = {1 << 12, (1 << 12) + (1 << 6), (1 << 12) + (1 << 6) + (1 << 7)};
        for (int q = 1; q <= 3; q++) {
            x.setSecond(16, q);
            doc.due("form(4)", x.form(4), q);
            doc.due("placesAbove(23) with " + q + " functions", x.placesAbove(23), above[q - 1]);
        }
        doc.due("setSecond(16, 0)", x.setSecond(16, 0), -3);
        doc.due("setSecond(16, 4)", x.setSecond(16, 4), -3);
    }

    private void functionsOfFlows() {
        doc.says("The function f, from 0 to K - 1, of a flow with the key x is ((x * A[f] + B[f]) modulo 1009) modulo M, "
                + "where A is 41, 73, 97, 131, and B is 5, 17, 29, 53;");
        for (int first = 0; first < 1000; first += 8) {
            for (int k = 1; k <= 4; k++) {
                duePlacesOfEightKeys(first, k);
            }
        }
    }

    private void duePlacesOfEightKeys(int first, int k) {
        CounterBraid x = new CounterBraid();
        for (int key = first; key < first + 8; key++) {
            x.addFlow(key);
        }
        for (int m = 2; m <= 24; m++) {
            x.setFirst(m, 3, k);
            for (int flow = 0; flow < 8; flow++) {
                doc.due("places of the key " + (first + flow) + ", M " + m + ", K " + k, x.places(flow),
                        Made.placesOfKey(first + flow, m, k));
            }
        }
    }

    private void functionsOfCounters() {
        doc.says("the function f, from 0 to Q - 1, of a counter c of the first layer is ((c * E[f] + F[f]) modulo 103) "
                + "modulo N, where E is 19, 37, 61, and F is 3, 11, 23.");
        for (int q = 1; q <= 3; q++) {
            CounterBraid x = new CounterBraid();
            x.setFirst(24, 3, 3);
            for (int n = 1; n <= 16; n++) {
                x.setSecond(n, q);
                for (int counter = 0; counter < 24; counter++) {
                    doc.due("placesAbove(" + counter + "), N " + n + ", Q " + q, x.placesAbove(counter),
                            Made.placesOfCounter(counter, n, q));
                }
            }
        }
    }

    private void placesOfFlows() {
        doc.says("The places of a flow are the different values of its functions,");
        // The key 300 has the values 197, 728 and 877 ahead of "modulo 12".
        doc.due("places(2)", Made.threeFlows().places(2), (1 << 5) + (1 << 8) + (1 << 1));
        CounterBraid x = Made.threeFlows();
        x.count(0, 2, 1);
        for (int counter = 0; counter < 12; counter++) {
            doc.due("rest(0, " + counter + ")", x.rest(0, counter), counter == 1 || counter == 5 || counter == 8 ? 1 : 0);
        }
    }

    private void placesOfCounters() {
        doc.says("and the places of a counter of the first layer those of its functions;");
        // The counter 4 has the values 79 and 159 - 103 ahead of "modulo 6".
        CounterBraid x = Made.threeFlows();
        doc.due("placesAbove(4)", x.placesAbove(4), (1 << 1) + (1 << 2));

        doc.says("a value that comes several times is one place.");
        // The flow 7 has the place 4 once and the place 0 twice; the counter 11 has the place 0 twice.
        doc.due("places(0)", x.places(0), 1 + 16);
        x.count(0, 0, 3);
        doc.due("rest(0, 0)", x.rest(0, 0), 3);
        doc.due("rest(0, 4)", x.rest(0, 4), 3);
        doc.due("placesAbove(11)", x.placesAbove(11), 1);
        int[] atEleven = Made.keysAt(12, 1, 1 << 11);
        CounterBraid y = Made.braid(new int[] {12, 3, 1, 6, 2, 20}, atEleven, new int[] {80});
        doc.due("above(0, 0)", y.above(0, 0), 10);
        doc.due("total(0, 3)", y.total(0, 3), 10);
        CounterBraid z = Made.braid(new int[] {2, 8, 4, 1, 3, 20}, Made.keysAt(2, 4, 3), new int[] {256 * 3 + 2});
        for (int counter = 0; counter < 2; counter++) {
            doc.due("rest(0, " + counter + ") of two", z.rest(0, counter), 2);
        }
        doc.due("above(0, 0) of one", z.above(0, 0), 3 + 3);
        doc.due("bound(0, 0, true)", z.bound(0, 0, true), 2 + 256 * 5);
        doc.due("overflow(0, 0, true)", z.overflow(0, 0, true), 5);
    }
}
