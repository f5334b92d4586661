/** "What it is" in the document: what the parts do together. */
final class WholeSentences {
    private static final int[] FORM = {12, 3, 3, 6, 2, 20};
    private static final int[] KEYS = {7, 8, 300};
    private static final int[] COUNTS = {5, 20, 100};

    private final Sentences doc;

    WholeSentences(Sentences doc) {
        this.doc = doc;
    }

    void all() {
        doc.from("What it is");
        shared();
        narrowing();
        added();
        uncertain();
        leastSpace();
    }

    private void shared() {
        doc.says("Counters in two layers that many flows share: each flow counts in a few small counters, those that "
                + "overflow count their overflows in a few shared counters of a second layer;");
        // The flows 8 and 300 have the place 1 both; the counters 0 and 9 have the place 5 above both.
        CounterBraid x = Made.threeFlows();
        doc.due("places(1) and places(2)", x.places(1) & x.places(2), 1 << 1);
        x.count(0, 1, 3);
        x.count(0, 2, 2);
        doc.due("rest(0, 1) of two flows", x.rest(0, 1), 5);
        doc.due("rest(0, 9) of one flow", x.rest(0, 9), 3);
        doc.due("total(0, 3) without an overflow", x.total(0, 3), 0);
        doc.due("placesAbove(0) and placesAbove(9)", x.placesAbove(0) & x.placesAbove(9), 1 << 5);
        x.count(0, 0, 20);
        doc.due("above(0, 5) of the counter 0", x.above(0, 5), 2);
        x.count(0, 1, 21);
        doc.due("above(0, 5) of two counters", x.above(0, 5), 5);
    }

    private void narrowing() {
        doc.says("the counts of the flows are found again by bounds that narrow round by round, first for the overflows, "
                + "then for the flows.");
        CounterBraid found = Made.braid(FORM, KEYS, COUNTS);
        for (int flow = 0; flow < KEYS.length; flow++) {
            doc.due("bound(0, " + flow + ", false)", found.bound(0, flow, false), COUNTS[flow]);
            doc.due("bound(0, " + flow + ", true)", found.bound(0, flow, true), COUNTS[flow]);
        }
        for (int rounds = 0; rounds < 30; rounds++) {
            doc.due("round " + (rounds + 1) + " of the first decoding narrows",
                    widthOfOverflows(rounds + 1) < widthOfOverflows(rounds) ? 1 : 0, rounds < 19 ? 1 : 0);
            doc.due("round " + (rounds + 1) + " of the second decoding narrows",
                    widthOfFlows(rounds + 1) < widthOfFlows(rounds) ? 1 : 0, rounds < 24 ? 1 : 0);
        }
    }

    private static long widthOfOverflows(int rounds) {
        CounterBraid x = Made.slowOverflows(rounds);
        long width = 0;
        for (int counter = 0; counter < x.form(0); counter++) {
            width += x.overflow(0, counter, true) - x.overflow(0, counter, false);
        }
        return width;
    }

    private static long widthOfFlows(int rounds) {
        CounterBraid x = Made.slow(60);
        long width = 0;
        for (int flow = 0; flow < x.form(6); flow++) {
            width += x.boundAfter(0, flow, true, rounds) - x.boundAfter(0, flow, false, rounds);
        }
        return width;
    }

    private void added() {
        doc.says("Two braids can be added,");
        CounterBraid x = Made.threeFlows();
        CounterBraid together = Made.threeFlows();
        for (int flow = 0; flow < KEYS.length; flow++) {
            x.count(0, flow, COUNTS[flow]);
            x.count(1, flow, 7 * flow + 6);
            together.count(0, flow, COUNTS[flow] + 7 * flow + 6);
            together.count(1, flow, 7 * flow + 6);
        }
        doc.due("addBraid(1, 0), the new mark is the counter 0's and 4's", x.addBraid(1, 0), 2);
        doc.due("digest() as if all had counted in braid 0", x.digest(), together.digest());
    }

    private void uncertain() {
        doc.says("flows that stay uncertain are told with their bounds,");
        // The flows 0 and 2 have the place 0, the flow 1 the place 1; both counters overflow into the same one above.
        int[] counts = {3, 4, 5};
        CounterBraid x = Made.braid(new int[] {2, 1, 4, 1, 1, 20}, new int[] {1, 2, 3}, counts);
        doc.due("certain(0)", x.certain(0), 0);
        doc.due("widest(0)", x.widest(0), 0);
        for (int flow = 0; flow < counts.length; flow++) {
            boolean holds = x.bound(0, flow, false) < counts[flow] && counts[flow] < x.bound(0, flow, true);
            doc.due("the true count of " + flow + " is between its bounds", holds ? 1 : 0, 1);
        }
    }

    private void leastSpace() {
        doc.says("and the least space is found with which all would be certain.");
        doc.due("leastSpace(0)", Made.braid(FORM, KEYS, COUNTS).leastSpace(0), 6);
        for (int counters = 2; counters <= 6; counters++) {
            CounterBraid x = Made.braid(new int[] {counters, 3, 3, 6, 2, 20}, KEYS, COUNTS);
            doc.due("all are certain with " + counters, x.certain(0) == 7 ? 1 : 0, counters == 6 ? 1 : 0);
            doc.due("leastSpace(0) with " + counters, x.leastSpace(0), 6);
        }
    }
}
