/** The promises 28 to 31, of "decoding": the space, and undo. */
final class SpacePromises {
    private static final int[] NO_BRAIDS = {-1, 2, 3, Integer.MIN_VALUE, Integer.MAX_VALUE};

    private final Sentences doc;

    SpacePromises(Sentences doc) {
        this.doc = doc;
    }

    void all() {
        leastSpace();
        leastSpaceByParting();
        leastSpaceAllElse();
        leastSpaceNone();
        bits();
        bitsForEach();
        undo();
    }

    private void leastSpace() {
        doc.from("Promise 28");
        doc.says("Finds the least space: the smallest M, 2 to 24, with which, all else being as it is, a braid in which each "
                + "flow has counted by its true count in this one would have all flows certain.");
        CounterBraid x = Made.threeFlows();
        doc.due("leastSpace(0), nothing was counted", x.leastSpace(0), 2);
        doc.due("leastSpace(0) without flows", new CounterBraid().leastSpace(0), 2);
        x.count(0, 0, 5);
        x.count(0, 1, 20);
        x.count(0, 2, 100);
        doc.due("leastSpace(0)", x.leastSpace(0), 6);
        doc.due("leastSpace(1)", x.leastSpace(1), 2);
        doc.due("leastSpace(0), R 5", Made.woven(5).leastSpace(0), 7);
        CounterBraid most = Made.full();
        doc.due("leastSpace(0), one flow of 16 has counted 1000 million", most.leastSpace(0) > 2 ? 1 : 0, 1);
    }

    /** With one function and 8 bits all flows are certain just where their values have places of their own. */
    private void leastSpaceByParting() {
        int[][] rows = {{0, 1}, {0, 8}, {319, 624, 687, 449, 644, 586}, {319, 624, 687, 449, 644, 586, 3}};
        int[] least = {2, 3, 24, -1};
        for (int i = 0; i < rows.length; i++) {
            CounterBraid x = new CounterBraid();
            x.setFirst(2 + 22 * (i % 2), 8, 1);
            for (int flow = 0; flow < rows[i].length; flow++) {
                x.addFlow(rows[i][flow]);
                x.count(1, flow, 1 + flow);
            }
            doc.due("the least M that parts the row " + i, leastParting(rows[i]), least[i]);
            doc.due("leastSpace(1) of the row " + i, x.leastSpace(1), least[i]);
        }
    }

    private static int leastParting(int[] keys) {
        for (int m = 2; m <= 24; m++) {
            int mask = 0;
            for (int key : keys) {
                mask |= Made.placesOfKey(key, m, 1);
            }
            if (Integer.bitCount(mask) == keys.length) {
                return m;
            }
        }
        return -1;
    }

    /** Every other number of the form counts: M alone is tried, from the braid's own true counts. */
    private void leastSpaceAllElse() {
        int[][] forms = {{2, 8, 1, 1, 1, 20}, {24, 1, 1, 1, 1, 20}, {24, 1, 1, 16, 3, 20}, {7, 3, 4, 6, 2, 1},
            {7, 3, 2, 6, 2, 60}, {7, 1, 2, 4, 2, 60}, {24, 2, 3, 12, 2, 3}, {24, 8, 4, 1, 1, 2}};
        int[] keys = {11, 14, 19, 9};
        int[] counts = {3, 20, 7, 300};
        for (int[] form : forms) {
            doc.due("leastSpace(0) by trying each M", Made.braid(form, keys, counts).leastSpace(0), tried(form, keys, counts));
        }
        int[] one = {3, 8, 1, 1, 1, 0};
        doc.due("leastSpace(0), R 0", Made.braid(one, keys, counts).leastSpace(0), -1);
        // Of the braid to which another one was added, and of one whose M has changed since.
        CounterBraid x = Made.counted();
        x.addBraid(1, 0);
        int[] form = {12, 3, 3, 6, 2, 20};
        doc.due("leastSpace(0) behind addBraid", x.leastSpace(0), tried(form, new int[] {7, 8, 300}, new int[] {14, 20, 117}));
        x.setFirst(5, 3, 3);
        doc.due("leastSpace(0) behind setFirst", x.leastSpace(0), 2);
    }

    private static int tried(int[] form, int[] keys, int[] counts) {
        for (int m = 2; m <= 24; m++) {
            int[] other = form.clone();
            other[0] = m;
            if (Made.braid(other, keys, counts).certain(0) == (1 << keys.length) - 1) {
                return m;
            }
        }
        return -1;
    }

    private void leastSpaceNone() {
        doc.says("Nothing is changed.");
        doc.dueUnchanged(Made::counted, "leastSpace(0)", x -> x.leastSpace(0), 6);
        doc.dueUnchanged(() -> Made.woven(4), "leastSpace(0)", x -> x.leastSpace(0), -1);
        CounterBraid x = Made.woven(5);
        x.leastSpace(0);
        doc.due("form(0)", x.form(0), 7);
        doc.due("certain(0)", x.certain(0), 31);
        doc.due("truth(0, 0)", x.truth(0, 0), 23);

        doc.says("braid: 0 or 1");
        x.addBraid(0, 1);
        x.clear(0);
        doc.due("leastSpace(0)", x.leastSpace(0), 2);
        doc.due("leastSpace(1)", x.leastSpace(1), 7);

        doc.says("Returns M;");
        doc.due("leastSpace(0), the least M", Made.sixteenFlows().leastSpace(0), 2);

        doc.says("NONE if there is none;");
        doc.due("leastSpace(0), R 4", Made.woven(4).leastSpace(0), -1);
        doc.due("leastSpace(0), R 0", Made.woven(0).leastSpace(0), -1);
        doc.due("leastSpace(1), R 0, nothing was counted", Made.woven(0).leastSpace(1), 2);

        doc.says("BAD_INDEX if there is no such braid.");
        for (int braid : NO_BRAIDS) {
            doc.dueUnchanged(Made::counted, "leastSpace(" + braid + ")", y -> y.leastSpace(braid), -2);
            doc.dueUnchanged(CounterBraid::new, "leastSpace(" + braid + ")", y -> y.leastSpace(braid), -2);
        }
    }

    private void bits() {
        doc.from("Promise 29");
        doc.says("Returns how many bits a braid has: M * (D + 1) + 32 * N.");
        for (int m = 2; m <= 24; m++) {
            for (int d = 1; d <= 8; d++) {
                CounterBraid x = new CounterBraid();
                x.setFirst(m, d, 1);
                for (int n = 1; n <= 16; n += 5) {
                    x.setSecond(n, 1);
                    doc.due("bits() of " + m + ", " + d + ", " + n, x.bits(), m * (d + 1) + 32 * n);
                }
            }
        }

        doc.says("Returns the number.");
        doc.dueUnchanged(CounterBraid::new, "bits()", x -> x.bits(), 240);
        doc.dueUnchanged(Made::counted, "bits()", x -> x.bits(), 240);
        doc.dueUnchanged(() -> formOf(2, 1, 1), "bits(), the fewest", x -> x.bits(), 36);
        doc.dueUnchanged(() -> formOf(24, 8, 16), "bits(), the most", x -> x.bits(), 728);
    }

    private static CounterBraid formOf(int m, int d, int n) {
        CounterBraid x = new CounterBraid();
        x.setFirst(m, d, 4);
        x.setSecond(n, 3);
        return x;
    }

    private void bitsForEach() {
        doc.from("Promise 30");
        doc.says("Returns the bits for each flow.");
        doc.dueUnchanged(Made::counted, "bitsForEach(), 80", x -> x.bitsForEach(), 0x42A00000);
        doc.dueUnchanged(Made::sixteenFlows, "bitsForEach(), 15", x -> x.bitsForEach(), 0x41700000);

        doc.says("Returns Float.floatToIntBits of (float) bits() / (float) (number of flows);");
        for (int m = 2; m <= 24; m++) {
            for (int d = 1; d <= 8; d++) {
                int n = 1 + (3 * m + 5 * d) % 16;
                CounterBraid x = formOf(m, d, n);
                for (int flows = 1; flows <= 16; flows++) {
                    x.addFlow(flows);
                    doc.due("bitsForEach() of " + m + ", " + d + ", " + n + " and " + flows + " flows", x.bitsForEach(),
                            Float.floatToIntBits((float) (m * (d + 1) + 32 * n) / (float) flows));
                }
            }
        }
        // 36 / 16, 728 / 1 and 47 / 3, which no float holds.
        CounterBraid least = formOf(2, 1, 1);
        for (int key = 0; key < 16; key++) {
            least.addFlow(key);
        }
        doc.due("bitsForEach(), the least", least.bitsForEach(), 0x40100000);
        CounterBraid most = formOf(24, 8, 16);
        most.addFlow(0);
        doc.due("bitsForEach(), the greatest", most.bitsForEach(), 0x44360000);
        CounterBraid rounded = Made.threeFlows();
        rounded.setFirst(5, 2, 3);
        rounded.setSecond(1, 1);
        doc.due("bitsForEach(), 47 / 3", rounded.bitsForEach(), 0x417AAAAB);

        doc.says("NONE if there are no flows.");
        doc.dueUnchanged(CounterBraid::new, "bitsForEach()", x -> x.bitsForEach(), -1);
        most.undo();
        doc.due("bitsForEach() behind undo()", most.bitsForEach(), -1);
    }

    private void undo() {
        doc.from("Promise 31");
        doc.says("Removes and restores the latest state of the history.");
        CounterBraid x = new CounterBraid();
        long[] digests = new long[6];
        Call[] calls = {y -> y.addFlow(7), y -> y.count(0, 0, 100), y -> y.addBraid(0, 1), y -> y.clear(0),
            y -> y.setFirst(3, 1, 1)};
        for (int i = 0; i < calls.length; i++) {
            digests[i] = x.digest();
            calls[i].on(x);
        }
        for (int i = calls.length - 1; i >= 0; i--) {
            doc.due("undo() of call " + i, x.undo(), i);
            doc.due("digest() behind it", x.digest(), digests[i]);
        }
        // A state that has been restored is not changed by what follows, nor is the next older one.
        CounterBraid y = Made.threeFlows();
        y.count(0, 0, 9);
        y.count(0, 0, 9);
        y.undo();
        y.count(0, 0, 1000);
        y.undo();
        doc.due("truth(0, 0)", y.truth(0, 0), 9);
        doc.due("rest(0, 0)", y.rest(0, 0), 1);
        y.undo();
        doc.due("truth(0, 0)", y.truth(0, 0), 0);
        doc.due("isMarked(0, 0)", y.isMarked(0, 0), 0);

        doc.says("Returns the number of states that are left in it;");
        CounterBraid z = new CounterBraid();
        for (int call = 0; call < 7; call++) {
            z.setRounds(call);
        }
        for (int left = 4; left >= 0; left--) {
            doc.due("undo()", z.undo(), left);
            doc.due("form(5)", z.form(5), left + 1);
        }

        doc.says("BAD_STATE if it is empty.");
        doc.due("undo() of an empty history", z.undo(), -4);
        doc.due("undo() once more", z.undo(), -4);
        doc.due("form(5)", z.form(5), 1);
        doc.dueUnchanged(CounterBraid::new, "undo()", w -> w.undo(), -4);
        doc.dueUnchanged(() -> Made.withText("1"), "undo() with a text", w -> w.undo(), -4);
    }
}
