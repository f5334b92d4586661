/** The promises 18 to 27, of "decoding". */
final class DecodePromises {
    private static final int LEAST = Integer.MIN_VALUE, MOST = Integer.MAX_VALUE;
    private static final int[] NO_BRAIDS = {-1, 2, 3, LEAST, MOST};
    private static final int[] NO_FLOWS = {-1, 3, 16, LEAST, MOST};

    private final Sentences doc;

    DecodePromises(Sentences doc) {
        this.doc = doc;
    }

    void all() {
        overflow();
        bound();
        boundAfter();
        boundAfterErrors();
        certain();
        certainOverflows();
        lastRound();
        total();
        totalOfEach();
        estimate();
        leastPlace();
        widest();
        widestNone();
    }

    /** A call for a braid, or for a flow or counter of a braid too. */
    private interface BraidCall {
        long on(CounterBraid x, int braid);
    }

    private interface NumberCall {
        long on(CounterBraid x, int braid, int number);
    }

    private void dueNoBraid(String name, BraidCall call) {
        for (int braid : NO_BRAIDS) {
            doc.dueUnchanged(Made::counted, name + " of the braid " + braid, x -> call.on(x, braid), -2);
            doc.dueUnchanged(CounterBraid::new, name + " of the braid " + braid, x -> call.on(x, braid), -2);
        }
    }

    private void dueNoFlow(String name, NumberCall call) {
        dueNoBraid(name, (x, braid) -> call.on(x, braid, 0));
        for (int flow : NO_FLOWS) {
            doc.dueUnchanged(Made::counted, name + " of the flow " + flow, x -> call.on(x, 0, flow), -2);
            doc.dueUnchanged(Made::counted, name + " of the flow " + flow, x -> call.on(x, 1, flow), -2);
        }
        doc.dueUnchanged(CounterBraid::new, name + " without flows", x -> call.on(x, 0, 0), -2);
        doc.dueUnchanged(Made::sixteenFlows, name + " of the flow 16 of 16", x -> call.on(x, 0, 16), -2);
    }

    private void overflow() {
        doc.from("Promise 18");
        doc.says("Returns a bound of the overflow of a counter of the first layer.");
        // Woven, the counters but 4 and 6 are marked.
        long[] lower = {22, 24, 14, 22, 0, 1, 0};
        for (int counter = 0; counter < 7; counter++) {
            int asked = counter;
            doc.dueUnchanged(() -> Made.woven(20), "overflow(0, " + counter + ", false)", x -> x.overflow(0, asked, false),
                    lower[counter]);
            doc.dueUnchanged(() -> Made.woven(20), "overflow(0, " + counter + ", true)", x -> x.overflow(0, asked, true),
                    lower[counter]);
        }

        doc.says("braid: 0 or 1");
        CounterBraid x = Made.woven(20);
        x.count(1, 1, 6);
        doc.due("overflow(1, 0, true)", x.overflow(1, 0, true), 0);
        // In braid 1 the counters 2 and 5 are marked, with the places {0, 1} and {3} above for themselves.
        doc.due("overflow(1, 2, false)", x.overflow(1, 2, false), 3);
        doc.due("overflow(1, 2, true)", x.overflow(1, 2, true), 3);
        doc.due("overflow(0, 2, true)", x.overflow(0, 2, true), 14);

        doc.says("counter: 0 to M - 1");
        for (int m = 2; m <= 24; m++) {
            CounterBraid y = Made.braid(new int[] {m, 1, 1, 1, 1, 20}, Made.keysAt(m, 1, 1 << m - 1), new int[] {9});
            doc.due("overflow(0, 0, true) of " + m, y.overflow(0, 0, true), 0);
            doc.due("overflow(0, " + (m - 1) + ", true)", y.overflow(0, m - 1, true), 4);
            doc.due("overflow(0, " + m + ", true)", y.overflow(0, m, true), -2);
            doc.due("overflow(0, " + m + ", false)", y.overflow(0, m, false), -2);
        }

        doc.says("upper: true for the upper one");
        doc.due("overflow(0, 0, true), R 2", Made.woven(2).overflow(0, 0, true), 22);
        doc.due("overflow(0, 0, false), R 2", Made.woven(2).overflow(0, 0, false), 1);

        doc.says("Returns the bound after R rounds;");
        long[] upperOfFive = {47, 45, 22, 22, 1, 1};
        long[] lowerOfNone = {1, 1, 1, 22, 22, 22};
        for (int rounds = 0; rounds < upperOfFive.length; rounds++) {
            CounterBraid y = Made.woven(rounds);
            doc.due("overflow(0, 5, true), R " + rounds, y.overflow(0, 5, true), upperOfFive[rounds]);
            doc.due("overflow(0, 0, false), R " + rounds, y.overflow(0, 0, false), lowerOfNone[rounds]);
        }

        doc.says("BAD_INDEX if there is no such braid or counter.");
        dueNoBraid("overflow", (y, braid) -> y.overflow(braid, 0, true));
        for (int counter : new int[] {-1, 12, 24, LEAST, MOST}) {
            doc.dueUnchanged(Made::counted, "overflow(0, " + counter + ", true)", y -> y.overflow(0, counter, true), -2);
            doc.dueUnchanged(Made::counted, "overflow(1, " + counter + ", false)", y -> y.overflow(1, counter, false), -2);
        }
    }

    private void bound() {
        doc.from("Promise 19");
        doc.says("Returns a bound of a flow.");
        doc.dueUnchanged(Made::counted, "bound(0, 2, true)", x -> x.bound(0, 2, true), 100);
        doc.dueUnchanged(Made::counted, "bound(0, 2, false)", x -> x.bound(0, 2, false), 100);

        doc.says("braid: 0 or 1");
        doc.due("bound(0, 0, true)", Made.counted().bound(0, 0, true), 5);
        doc.due("bound(1, 0, true)", Made.counted().bound(1, 0, true), 9);

        doc.says("flow: its number");
        CounterBraid x = Made.braid(new int[] {24, 8, 1, 1, 1, 20}, Made.keysAt(24, 1, 1, 2, 4, 8, 16, 32, 64, 128, 256, 512,
                1024, 2048, 4096, 8192, 16384, 32768), new int[] {1, 2, 3, 4, 5, 6, 7, 8, 9, 10, 11, 12, 13, 14, 15, 16});
        for (int flow = 0; flow < 16; flow++) {
            doc.due("bound(0, " + flow + ", false) of 16", x.bound(0, flow, false), flow + 1);
            doc.due("bound(0, " + flow + ", true) of 16", x.bound(0, flow, true), flow + 1);
        }

        doc.says("upper: true for the upper one");
        doc.due("bound(0, 0, true), R 2", Made.woven(2).bound(0, 0, true), 49);
        doc.due("bound(0, 0, false), R 2", Made.woven(2).bound(0, 0, false), 5);

        doc.says("Returns the bound after both decodings;");
        int[] rounds = {0, 2, 4, 5, 60};
        long[][] lower = {{0, 0, 0, 0, 0}, {5, 2, 16, 0, 0}, {21, 2, 18, 26, 26}, {23, 2, 18, 26, 26}, {23, 2, 18, 26, 26}};
        long[][] upper = {{49, 72, 44, 44, 49}, {49, 28, 44, 26, 28}, {23, 2, 18, 26, 26}, {23, 2, 18, 26, 26},
            {23, 2, 18, 26, 26}};
        for (int i = 0; i < rounds.length; i++) {
            CounterBraid y = Made.woven(rounds[i]);
            for (int flow = 0; flow < 5; flow++) {
                doc.due("bound(0, " + flow + ", false), R " + rounds[i], y.bound(0, flow, false), lower[i][flow]);
                doc.due("bound(0, " + flow + ", true), R " + rounds[i], y.bound(0, flow, true), upper[i][flow]);
            }
        }

        doc.says("BAD_INDEX if there is no such braid or flow.");
        dueNoFlow("bound", (y, braid, flow) -> y.bound(braid, flow, false));
        dueNoFlow("bound", (y, braid, flow) -> y.bound(braid, flow, true));
    }

    private void boundAfter() {
        doc.from("Promise 20");
        doc.says("Returns a bound of a flow after fewer rounds of the second decoding (the first one is done for R rounds).");
        CounterBraid x = Made.woven(20);
        long[] lower = {0, 5, 5, 21, 21, 23, 23};
        long[] upper = {49, 49, 49, 49, 23, 23, 23};
        for (int rounds = 0; rounds < lower.length; rounds++) {
            doc.due("boundAfter(0, 0, false, " + rounds + ")", x.boundAfter(0, 0, false, rounds), lower[rounds]);
            doc.due("boundAfter(0, 0, true, " + rounds + ")", x.boundAfter(0, 0, true, rounds), upper[rounds]);
        }
        for (int rounds = 0; rounds <= 60; rounds += 20) {
            CounterBraid y = Made.slow(rounds);
            for (int flow = 0; flow < 15; flow++) {
                doc.due("boundAfter of R rounds, " + rounds, y.boundAfter(0, flow, true, rounds), y.bound(0, flow, true));
                doc.due("boundAfter of R rounds, " + rounds, y.boundAfter(0, flow, false, rounds), y.bound(0, flow, false));
            }
        }
        CounterBraid none = Made.woven(0);
        doc.due("boundAfter(0, 1, true, 0), R 0", none.boundAfter(0, 1, true, 0), 72);
        doc.dueUnchanged(() -> Made.woven(20), "boundAfter(0, 0, true, 1)", y -> y.boundAfter(0, 0, true, 1), 49);

        doc.says("braid: 0 or 1");
        doc.due("boundAfter(0, 2, true, 1)", Made.counted().boundAfter(0, 2, true, 1), 100);
        doc.due("boundAfter(1, 2, true, 1)", Made.counted().boundAfter(1, 2, true, 1), 17);

        doc.says("flow: its number");
        CounterBraid flows = Made.woven(20);
        long[] least = {49, 2, 44, 28, 44};
        for (int flow = 0; flow < 5; flow++) {
            doc.due("boundAfter(0, " + flow + ", true, 0)", flows.boundAfter(0, flow, true, 0), least[flow]);
        }
        doc.due("boundAfter(0, 15, true, 0)", Made.sixteenFlows().boundAfter(0, 15, true, 0), 0);

        doc.says("upper: true for the upper one");
        doc.due("boundAfter(0, 0, true, 3)", flows.boundAfter(0, 0, true, 3), 49);
        doc.due("boundAfter(0, 0, false, 3)", flows.boundAfter(0, 0, false, 3), 21);

        doc.says("rounds: 0 to 60");
        for (int rounds = 5; rounds <= 60; rounds++) {
            doc.due("boundAfter(0, 0, false, " + rounds + ")", flows.boundAfter(0, 0, false, rounds), 23);
        }
        // More rounds than R are done as they are asked for; the first decoding is done for R rounds all the same.
        CounterBraid two = Made.woven(2);
        doc.due("boundAfter(0, 0, false, 3), R 2", two.boundAfter(0, 0, false, 3), 21);
        doc.due("boundAfter(0, 0, false, 60), R 2", two.boundAfter(0, 0, false, 60), 23);
        doc.due("boundAfter(0, 0, true, 60), R 2", two.boundAfter(0, 0, true, 60), 49);

        doc.says("Returns the bound;");
        doc.due("boundAfter(0, 1, false, 1)", flows.boundAfter(0, 1, false, 1), 2);
        doc.due("boundAfter(0, 1, true, 1)", flows.boundAfter(0, 1, true, 1), 2);
    }

    private void boundAfterErrors() {
        doc.says("BAD_INDEX if there is no such braid or flow;");
        dueNoFlow("boundAfter of 0 rounds", (x, braid, flow) -> x.boundAfter(braid, flow, true, 0));
        dueNoFlow("boundAfter of 60 rounds", (x, braid, flow) -> x.boundAfter(braid, flow, false, 60));
        dueNoFlow("boundAfter of 61 rounds", (x, braid, flow) -> x.boundAfter(braid, flow, false, 61));

        doc.says("BAD_VALUE if rounds is out of range.");
        for (int rounds : new int[] {-1, 61, 62, LEAST, MOST}) {
            doc.dueUnchanged(Made::counted, "boundAfter(0, 2, true, " + rounds + ")",
                    x -> x.boundAfter(0, 2, true, rounds), -3);
            doc.dueUnchanged(Made::counted, "boundAfter(1, 0, false, " + rounds + ")",
                    x -> x.boundAfter(1, 0, false, rounds), -3);
        }
    }

    private void certain() {
        doc.from("Promise 21");
        doc.says("Returns the flows that are certain.");
        int[] masks = {0, 2, 2, 0, 30, 31, 31};
        for (int rounds = 3; rounds < masks.length; rounds++) {
            doc.due("certain(0), R " + rounds, Made.woven(rounds).certain(0), masks[rounds]);
        }
        doc.dueUnchanged(() -> Made.woven(4), "certain(0)", x -> x.certain(0), 30);

        doc.says("braid: 0 or 1");
        doc.due("certain(1), 0 to 0", Made.woven(3).certain(1), 31);
        CounterBraid x = Made.woven(3);
        x.count(1, 0, 1);
        doc.due("certain(1), the flows 0 and 4 share a place", x.certain(1) & 14, 14);

        doc.says("Returns the mask, the sum of 2^f for each of them;");
        doc.due("certain(0) without flows", new CounterBraid().certain(0), 0);
        doc.due("certain(0) of 16 flows that have not counted", Made.sixteenFlows().certain(0), 65535);
        CounterBraid last = Made.braid(new int[] {2, 8, 1, 1, 1, 1}, Made.keysAt(2, 1, 1, 1, 1, 2), new int[] {1, 1, 1, 1});
        doc.due("certain(0), the last flow alone", last.certain(0), 8);

        doc.says("BAD_INDEX if there is no such braid.");
        dueNoBraid("certain", (y, braid) -> y.certain(braid));
    }

    private void certainOverflows() {
        doc.from("Promise 22");
        doc.says("Returns the counters of the first layer whose overflow has two equal bounds.");
        int[] masks = {16 + 64, 2 + 8 + 16 + 64, 2 + 4 + 8 + 16 + 64, 127 - 32, 127, 127};
        for (int rounds = 0; rounds < masks.length; rounds++) {
            doc.due("certainOverflows(0), R " + rounds, Made.woven(rounds).certainOverflows(0), masks[rounds]);
        }
        doc.dueUnchanged(() -> Made.woven(3), "certainOverflows(0)", x -> x.certainOverflows(0), 127 - 32);

        doc.says("braid: 0 or 1");
        doc.due("certainOverflows(1)", Made.woven(0).certainOverflows(1), 127);
        CounterBraid x = Made.woven(0);
        x.addBraid(0, 1);
        x.clear(0);
        doc.due("certainOverflows(1), added", x.certainOverflows(1), 16 + 64);
        doc.due("certainOverflows(0), cleared", x.certainOverflows(0), 127);

        doc.says("Returns the mask, the sum of 2^c for each of them;");
        for (int m = 2; m <= 24; m++) {
            int[] keys = Made.keysAt(m, 1, 1, 1 << m - 1);
            CounterBraid y = Made.braid(new int[] {m, 1, 1, 1, 1, 20}, keys, new int[] {4, 6});
            doc.due("certainOverflows(1) of " + m, y.certainOverflows(1), (1 << m) - 1);
            doc.due("certainOverflows(0), all but the first and the last", y.certainOverflows(0), (1 << m) - 2 - (1 << m - 1));
        }

        doc.says("BAD_INDEX if there is no such braid.");
        dueNoBraid("certainOverflows", (y, braid) -> y.certainOverflows(braid));
    }

    private void lastRound() {
        doc.from("Promise 23");
        doc.says("Returns how many rounds of the second decoding change a bound: the number of the last round, from 1 on, in "
                + "which one changes, of the R rounds.");
        int[] last = {0, 1, 2, 3, 4, 5, 5, 5};
        for (int rounds = 0; rounds < last.length; rounds++) {
            doc.due("lastRound(0), R " + rounds, Made.woven(rounds).lastRound(0), last[rounds]);
        }
        for (int rounds = 0; rounds <= 60; rounds++) {
            doc.due("lastRound(0) of the slow one, R " + rounds, Made.slow(rounds).lastRound(0), Math.min(rounds, 24));
        }
        doc.dueUnchanged(() -> Made.woven(20), "lastRound(0)", x -> x.lastRound(0), 5);
        // In the first round a lower bound alone changes; the upper one is right before it.
        CounterBraid one = Made.braid(new int[] {2, 8, 1, 1, 1, 60}, Made.keysAt(2, 1, 1), new int[] {9});
        doc.due("lastRound(0) of one flow", one.lastRound(0), 1);

        doc.says("braid: 0 or 1");
        CounterBraid x = Made.woven(20);
        x.count(1, 1, 1);
        doc.due("lastRound(0)", x.lastRound(0), 5);
        doc.due("lastRound(1)", x.lastRound(1), 1);

        doc.says("Returns the number;");
        CounterBraid first = Made.slowOverflows(19);
        doc.due("lastRound(0), though the first decoding goes on for 19", first.lastRound(0), 1);

        doc.says("0 if none changes one;");
        doc.due("lastRound(0) without flows", new CounterBraid().lastRound(0), 0);
        doc.due("lastRound(1), nothing was counted", Made.woven(20).lastRound(1), 0);
        doc.due("lastRound(0) without rounds", Made.woven(0).lastRound(0), 0);
        CounterBraid same = Made.braid(new int[] {2, 8, 1, 1, 1, 60}, Made.keysAt(2, 1, 1, 1), new int[] {2, 3});
        doc.due("lastRound(0), 0 to 5 for both", same.lastRound(0), 0);

        doc.says("BAD_INDEX if there is no such braid.");
        dueNoBraid("lastRound", (y, braid) -> y.lastRound(braid));
    }

    private void total() {
        doc.from("Promise 24");
        doc.says("Returns a sum.");
        long[] totals = {95, 23, 175, 165};
        for (int what = 0; what < totals.length; what++) {
            int asked = what;
            doc.dueUnchanged(() -> Made.woven(2), "total(0, " + what + "), R 2", x -> x.total(0, asked), totals[what]);
        }

        doc.says("braid: 0 or 1");
        for (int what = 0; what < totals.length; what++) {
            doc.due("total(1, " + what + ")", Made.woven(2).total(1, what), 0);
        }
        doc.due("total(0, 0)", Made.counted().total(0, 0), 125);
        doc.due("total(1, 0)", Made.counted().total(1, 0), 26);

        doc.says("what: 0 of the true counts, 1 of the lower bounds of all flows, 2 of their upper bounds, "
                + "3 of the numbers of the second layer");
        CounterBraid x = Made.woven(3);
        doc.due("total(0, 0)", x.total(0, 0), 23 + 2 + 18 + 26 + 26);
        doc.due("total(0, 3)", x.total(0, 3), 36 + 36 + 24 + 47 + 22);
        long lower = 0;
        long upper = 0;
        for (int flow = 0; flow < 5; flow++) {
            lower += x.bound(0, flow, false);
            upper += x.bound(0, flow, true);
        }
        doc.due("total(0, 1)", x.total(0, 1), lower);
        doc.due("total(0, 2)", x.total(0, 2), upper);
        doc.due("the bounds are apart", upper > lower ? 1 : 0, 1);
        // The bounds of a flow that was undone, 0 to 5 for both, are no more in the sums.
        CounterBraid less = withOneFlowUndone();
        doc.due("total(0, 1) behind undo() of a flow", less.total(0, 1), 5);
        doc.due("total(0, 2) behind undo() of a flow", less.total(0, 2), 5);
    }

    /** One flow that has counted 5; another one had the same place, and its bounds have been asked for. */
    private static CounterBraid withOneFlowUndone() {
        int[] keys = Made.keysAt(2, 1, 1, 1);
        CounterBraid x = Made.braid(new int[] {2, 8, 1, 1, 1, 20}, new int[] {keys[0]}, new int[] {5});
        x.addFlow(keys[1]);
        x.total(0, 2);
        x.undo();
        return x;
    }

    private void totalOfEach() {
        doc.says("Returns the sum;");
        int[] keys = Made.keysAt(2, 1, 1, 1, 1, 1, 1, 1, 1, 1, 1, 1, 1, 1, 1, 1, 1, 1);
        int[] counts = new int[16];
        java.util.Arrays.fill(counts, 1000000);
        CounterBraid x = Made.braid(new int[] {2, 8, 1, 16, 3, 60}, keys, counts);
        for (int turn = 0; turn < 5; turn++) {
            x.addBraid(0, 1);
            x.addBraid(1, 0);
        }
        doc.due("total(0, 0)", x.total(0, 0), 16000000L * 89);
        doc.due("total(0, 2), 16 times the whole", x.total(0, 2), 16 * 16000000L * 89);
        doc.due("total(0, 1)", x.total(0, 1), 0);
        doc.due("total(0, 3), at three places each", x.total(0, 3), 16000000L * 89 / 256 * 3);
        CounterBraid none = new CounterBraid();
        for (int what = 0; what < 4; what++) {
            doc.due("total(0, " + what + ") of a new object", none.total(0, what), 0);
        }

        doc.says("BAD_INDEX if there is no such braid;");
        for (int what = -1; what <= 4; what++) {
            int asked = what;
            dueNoBraid("total, " + what, (y, braid) -> y.total(braid, asked));
        }

        doc.says("BAD_VALUE if what is out of range.");
        for (int what : new int[] {-1, 4, 5, LEAST, MOST}) {
            doc.dueUnchanged(Made::counted, "total(0, " + what + ")", y -> y.total(0, what), -3);
            doc.dueUnchanged(Made::counted, "total(1, " + what + ")", y -> y.total(1, what), -3);
        }
    }

    private void estimate() {
        doc.from("Promise 25");
        doc.says("Estimates a flow by the middle of its bounds.");
        long[] middles = {27, 15, 30, 13, 14};
        for (int flow = 0; flow < middles.length; flow++) {
            int asked = flow;
            doc.dueUnchanged(() -> Made.woven(2), "estimate(0, " + flow + "), R 2", x -> x.estimate(0, asked),
                    middles[flow]);
        }

        doc.says("braid: 0 or 1");
        doc.due("estimate(0, 2)", Made.counted().estimate(0, 2), 100);
        doc.due("estimate(1, 2)", Made.counted().estimate(1, 2), 17);

        doc.says("flow: its number");
        doc.due("estimate(0, 0)", Made.counted().estimate(0, 0), 5);
        doc.due("estimate(0, 15)", Made.sixteenFlows().estimate(0, 15), 0);

        doc.says("Returns (lower bound + upper bound) / 2, rounded down;");
        for (int sum = 2; sum <= 5; sum++) {
            CounterBraid x = Made.braid(new int[] {2, 8, 1, 1, 1, 20}, Made.keysAt(2, 1, 1, 1), new int[] {1, sum - 1});
            doc.due("estimate(0, 0), 0 to " + sum, x.estimate(0, 0), sum / 2);
        }
        doc.due("estimate(0, 0), 0 to 49", Made.woven(0).estimate(0, 0), 24);
        doc.due("estimate(0, 0) of 1000 million", aloneAtMost().estimate(0, 0), 1000000000);

        doc.says("BAD_INDEX if there is no such braid or flow.");
        dueNoFlow("estimate", (x, braid, flow) -> x.estimate(braid, flow));
    }

    private static CounterBraid aloneAtMost() {
        CounterBraid x = Made.threeFlows();
        Made.fill(x, 1000000);
        return x;
    }

    private void leastPlace() {
        doc.from("Promise 26");
        doc.says("Estimates a flow by its least place: the smallest one of the greatest values of the sums at its places, "
                + "before any round of the second decoding.");
        long[] least = {49, 2, 44, 28, 44};
        for (int flow = 0; flow < least.length; flow++) {
            int asked = flow;
            doc.dueUnchanged(() -> Made.woven(20), "leastPlace(0, " + flow + ")", x -> x.leastPlace(0, asked), least[flow]);
        }

        doc.says("braid: 0 or 1");
        doc.due("leastPlace(0, 2)", Made.counted().leastPlace(0, 2), 100);
        doc.due("leastPlace(1, 2)", Made.counted().leastPlace(1, 2), 17);

        doc.says("flow: its number");
        doc.due("leastPlace(0, 0)", Made.counted().leastPlace(0, 0), 5);
        doc.due("leastPlace(0, 15)", Made.sixteenFlows().leastPlace(0, 15), 0);

        // The second flow's upper bound is 3 from the second round on.
        CounterBraid chain = Made.braid(new int[] {3, 8, 2, 1, 1, 20}, Made.keysAt(3, 2, 5, 3, 2), new int[] {4, 3, 10});
        doc.due("leastPlace(0, 0) of the chain", chain.leastPlace(0, 0), 4);
        doc.due("leastPlace(0, 1) of the chain", chain.leastPlace(0, 1), 7);
        doc.due("leastPlace(0, 2) of the chain", chain.leastPlace(0, 2), 13);

        doc.says("Returns that value;");
        // The rounds of the first decoding count: without them the upper bounds of the overflows are their starts.
        doc.due("leastPlace(0, 1), R 0", Made.woven(0).leastPlace(0, 1), 72);
        doc.due("leastPlace(0, 1), R 1", Made.woven(1).leastPlace(0, 1), 70);
        doc.due("leastPlace(0, 1), R 2", Made.woven(2).leastPlace(0, 1), 28);
        doc.due("leastPlace(0, 1), R 4", Made.woven(4).leastPlace(0, 1), 2);
        doc.due("leastPlace(1, 1), nothing was counted", Made.woven(4).leastPlace(1, 1), 0);

        doc.says("BAD_INDEX if there is no such braid or flow.");
        dueNoFlow("leastPlace", (x, braid, flow) -> x.leastPlace(braid, flow));
    }

    private void widest() {
        doc.from("Promise 27");
        doc.says("Returns the flow whose bounds are farthest apart.");
        doc.due("widest(0), R 0", Made.woven(0).widest(0), 1);
        doc.dueUnchanged(() -> Made.woven(2), "widest(0), R 2", x -> x.widest(0), 0);
        // The bounds are 16 and 44, 5 and 49, ..
        CounterBraid width = Made.woven(2, new int[] {19, 11, 14, 9, 18}, new int[] {18, 23, 2, 26, 26});
        doc.due("widest(0), not the highest one", width.widest(0), 1);
        int[] keys = Made.keysAt(3, 1, 1, 2, 2, 4, 4);
        CounterBraid last = Made.braid(new int[] {3, 8, 1, 1, 1, 20}, keys, new int[] {200, 1, 1, 2, 1});
        doc.due("widest(0), 0 to 3 behind 0 to 2", last.widest(0), 3);

        doc.says("braid: 0 or 1");
        doc.due("widest(1)", last.widest(1), -1);
        last.count(1, 2, 1);
        doc.due("widest(1), 0 to 1", last.widest(1), 1);
        doc.due("widest(0)", last.widest(0), 3);

        doc.says("Returns its number, of several the lowest one;");
        CounterBraid same = Made.braid(new int[] {3, 8, 1, 1, 1, 20}, keys, new int[] {5, 1, 1, 1, 1});
        doc.due("widest(0), 0 to 2 four times", same.widest(0), 1);
        CounterBraid all = Made.sixteenFlows();
        all.setFirst(2, 8, 4);
        all.count(0, 15, 3);
        doc.due("widest(0) of 16", all.widest(0), 0);
    }

    private void widestNone() {
        doc.says("NONE if there are no flows, or all are certain;");
        doc.dueUnchanged(CounterBraid::new, "widest(0)", x -> x.widest(0), -1);
        doc.dueUnchanged(CounterBraid::new, "widest(1)", x -> x.widest(1), -1);
        doc.dueUnchanged(Made::sixteenFlows, "widest(0)", x -> x.widest(0), -1);
        doc.dueUnchanged(() -> Made.woven(5), "widest(0)", x -> x.widest(0), -1);
        doc.due("widest(0), one is not certain", Made.woven(4).widest(0), 0);
        doc.due("widest(0) behind undo() of a flow", withOneFlowUndone().widest(0), -1);
        doc.due("certain(0) behind undo() of a flow", withOneFlowUndone().certain(0), 1);

        doc.says("BAD_INDEX if there is no such braid.");
        dueNoBraid("widest", (x, braid) -> x.widest(braid));
    }
}
