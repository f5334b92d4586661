/** "Bounds" in the document's description. */
final class BoundSentences {
    /** Flows at {0, 2}, {0, 1} and {1} of three counters that don't overflow: 7, 13 and 4 stand there. */
    private static final int[] FLOW_KEYS = Made.keysAt(3, 2, 0b101, 0b011, 0b010);
    private static final int[] FLOW_COUNTS = {4, 3, 10};
    private static final int[][] FLOW_LOWER = {{0, 0, 0}, {4, 3, 6}, {4, 3, 6}, {4, 3, 10}};
    private static final int[][] FLOW_UPPER = {{4, 7, 13}, {4, 7, 13}, {4, 3, 10}, {4, 3, 10}};

    /** Each flow has a counter of its own; these have the places {0, 2}, {0, 1} and {1}, where 7, 13 and 4 stand. */
    private static final int[] MARKED = {0, 1, 12};
    private static final int[] MARKED_KEYS = Made.keysAt(13, 1, 1, 1 << 1, 1 << 12);
    private static final int[] MARKED_COUNTS = {9, 7, 21};
    private static final int[] OVERFLOWS = {4, 3, 10};
    private static final int[][] LOWER = {{1, 1, 1}, {4, 3, 6}, {4, 3, 7}, {4, 3, 10}};
    private static final int[][] UPPER = {{4, 7, 13}, {4, 6, 12}, {4, 3, 10}, {4, 3, 10}};

    private final Sentences doc;

    BoundSentences(Sentences doc) {
        this.doc = doc;
    }

    void all() {
        doc.from("Bounds");
        sums();
        firstBounds();
        rounds();
        lowerInRounds();
        overflows();
        startOfOverflows();
        notMarked();
        flows();
        sumsOfFlows();
        roundsOfBoth();
        certain();
    }

    private static CounterBraid flowChain(int rounds) {
        return Made.braid(new int[] {3, 8, 2, 1, 1, rounds}, FLOW_KEYS, FLOW_COUNTS);
    }

    private static CounterBraid overflowChain(int rounds) {
        return Made.braid(new int[] {13, 1, 1, 3, 2, rounds}, MARKED_KEYS, MARKED_COUNTS);
    }

    private void dueBounds(CounterBraid x, String when, int flow, long lower, long upper) {
        doc.due("bound(0, " + flow + ", false)" + when, x.bound(0, flow, false), lower);
        doc.due("bound(0, " + flow + ", true)" + when, x.bound(0, flow, true), upper);
    }

    private void dueOverflow(CounterBraid x, String when, int counter, long lower, long upper) {
        doc.due("overflow(0, " + counter + ", false)" + when, x.overflow(0, counter, false), lower);
        doc.due("overflow(0, " + counter + ", true)" + when, x.overflow(0, counter, true), upper);
    }

    private static int isWithin(long least, long value, long greatest) {
        return least <= value && value <= greatest ? 1 : 0;
    }

    private void sums() {
        doc.says("There are things, each with some places, at which there are sums; "
                + "the sum at a place is from a least to a greatest value.");
        for (int rounds = 0; rounds <= 6; rounds++) {
            CounterBraid x = Made.woven(rounds);
            for (int flow = 0; flow < 5; flow++) {
                doc.due("the true count of the flow " + flow + " is within its bounds, R " + rounds,
                        isWithin(x.bound(0, flow, false), x.truth(0, flow), x.bound(0, flow, true)), 1);
            }
            CounterBraid y = overflowChain(rounds);
            for (int i = 0; i < MARKED.length; i++) {
                doc.due("the overflow of the counter " + MARKED[i] + " is within its bounds, R " + rounds,
                        isWithin(y.overflow(0, MARKED[i], false), OVERFLOWS[i], y.overflow(0, MARKED[i], true)), 1);
            }
        }
    }

    private void firstBounds() {
        doc.says("Each thing has a lower bound, at first its start, and an upper bound, at first the smallest one of the "
                + "greatest values of the sums at its places.");
        CounterBraid x = flowChain(0);
        for (int flow = 0; flow < 3; flow++) {
            dueBounds(x, "", flow, FLOW_LOWER[0][flow], FLOW_UPPER[0][flow]);
        }
        CounterBraid y = overflowChain(0);
        for (int i = 0; i < 3; i++) {
            dueOverflow(y, "", MARKED[i], LOWER[0][i], UPPER[0][i]);
        }
        // Four places each time, of which another one is the smallest.
        for (int least = 0; least < 4; least++) {
            int[] masks = {15, 15 - (1 << least)};
            CounterBraid z = Made.braid(new int[] {4, 8, 4, 1, 1, 0}, Made.keysAt(4, 4, masks), new int[] {2, 7});
            dueBounds(z, ", the place " + least, 0, 0, 2);
            dueBounds(z, ", all but the place " + least, 1, 0, 9);
        }
    }

    private void rounds() {
        doc.says("In a round, for each thing, with the bounds from before the round:");
        int[] backwards = {FLOW_KEYS[2], FLOW_KEYS[1], FLOW_KEYS[0]};
        int[] counts = {FLOW_COUNTS[2], FLOW_COUNTS[1], FLOW_COUNTS[0]};
        for (int rounds = 0; rounds <= 3; rounds++) {
            CounterBraid x = flowChain(rounds);
            CounterBraid y = Made.braid(new int[] {3, 8, 2, 1, 1, rounds}, backwards, counts);
            for (int flow = 0; flow < 3; flow++) {
                dueBounds(x, ", R " + rounds, flow, FLOW_LOWER[rounds][flow], FLOW_UPPER[rounds][flow]);
                dueBounds(y, ", R " + rounds, 2 - flow, FLOW_LOWER[rounds][flow], FLOW_UPPER[rounds][flow]);
            }
        }
        doc.due("lastRound(0)", flowChain(20).lastRound(0), 3);

        doc.says("the upper bound becomes the smallest one of itself and, for each of its places, the greatest value of "
                + "the sum there minus the lower bounds of all other things with this place;");
        for (int rounds = 0; rounds <= 4; rounds++) {
            CounterBraid x = overflowChain(rounds);
            for (int i = 0; i < 3; i++) {
                doc.due("overflow(0, " + MARKED[i] + ", true), R " + rounds, x.overflow(0, MARKED[i], true),
                        UPPER[Math.min(rounds, 3)][i]);
            }
        }
        // Three others with the same place and one overflow at least: 20 - 3 for each.
        CounterBraid four = Made.braid(new int[] {4, 1, 1, 1, 1, 1}, Made.keysAt(4, 1, 1, 2, 4, 8), new int[] {4, 8, 12, 16});
        for (int counter = 0; counter < 4; counter++) {
            dueOverflow(four, " of four", counter, 1, 17);
        }
        dueBounds(four, " of four", 3, 2, 34);
    }

    private void lowerInRounds() {
        doc.says("the lower bound becomes the greatest one of itself and, for each of its places, the least value of the "
                + "sum there minus the upper bounds of all other things with this place.");
        for (int rounds = 0; rounds <= 4; rounds++) {
            CounterBraid x = overflowChain(rounds);
            for (int i = 0; i < 3; i++) {
                doc.due("overflow(0, " + MARKED[i] + ", false), R " + rounds, x.overflow(0, MARKED[i], false),
                        LOWER[Math.min(rounds, 3)][i]);
            }
        }
        // 9 - 9 - 9 is below 0, so the greatest one is the bound itself.
        for (int rounds = 0; rounds <= 60; rounds += 20) {
            CounterBraid y = Made.braid(new int[] {2, 8, 1, 1, 1, rounds}, Made.keysAt(2, 1, 1, 1, 1), new int[] {2, 3, 4});
            for (int flow = 0; flow < 3; flow++) {
                dueBounds(y, " of three at one place, R " + rounds, flow, 0, 9);
            }
            doc.due("lastRound(0)", y.lastRound(0), 0);
        }
    }

    private void overflows() {
        doc.says("The overflows are the things of the first decoding: those counters of the first layer that are marked, "
                + "with their places in the second layer;");
        // The counter 1 is not marked, so the others have the places {0, 2} and {1} for themselves.
        CounterBraid x = Made.braid(new int[] {13, 1, 1, 3, 2, 0}, MARKED_KEYS, new int[] {9, 1, 21});
        dueOverflow(x, ", R 0", 0, 1, 4);
        dueOverflow(x, ", R 0", 1, 0, 0);
        dueOverflow(x, ", R 0", 12, 1, 10);
        doc.due("certainOverflows(0), R 0", x.certainOverflows(0), 8191 - 1 - (1 << 12));
        x = Made.braid(new int[] {13, 1, 1, 3, 2, 1}, MARKED_KEYS, new int[] {9, 1, 21});
        dueOverflow(x, ", R 1", 0, 4, 4);
        dueOverflow(x, ", R 1", 1, 0, 0);
        dueOverflow(x, ", R 1", 12, 10, 10);
    }

    private void startOfOverflows() {
        doc.says("their start is 1,");
        CounterBraid x = overflowChain(0);
        for (int counter : MARKED) {
            doc.due("overflow(0, " + counter + ", false)", x.overflow(0, counter, false), 1);
        }
        CounterBraid one = Made.braid(new int[] {2, 1, 1, 1, 1, 0}, Made.keysAt(2, 1, 1), new int[] {2});
        doc.due("certainOverflows(0), 1 to 1 and 0 to 0", one.certainOverflows(0), 3);
        CounterBraid two = Made.braid(new int[] {2, 1, 1, 1, 1, 20}, Made.keysAt(2, 1, 1, 2), new int[] {2, 2});
        dueOverflow(two, ", 2 for both", 0, 1, 1);
        dueOverflow(two, ", 2 for both", 1, 1, 1);

        doc.says("and least and greatest value of the sum at a place are the number there.");
        CounterBraid alone = Made.braid(new int[] {2, 3, 1, 1, 1, 1}, Made.keysAt(2, 1, 1), new int[] {1000000});
        doc.due("above(0, 0)", alone.above(0, 0), 125000);
        dueOverflow(alone, ", R 1", 0, 125000, 125000);
        alone.setRounds(0);
        dueOverflow(alone, ", R 0", 0, 1, 125000);
    }

    private void notMarked() {
        doc.says("A counter that is not marked has an overflow with both bounds 0.");
        for (int rounds = 0; rounds <= 60; rounds += 30) {
            CounterBraid x = overflowChain(rounds);
            for (int counter = 2; counter < 12; counter++) {
                dueOverflow(x, ", R " + rounds, counter, 0, 0);
            }
            // Its places are those of marked ones, and 1 and 255 are the least and the greatest rest without a mark.
            CounterBraid y = Made.braid(new int[] {4, 8, 1, 1, 1, rounds}, Made.keysAt(4, 1, 1, 2, 4), new int[] {1, 255, 256});
            for (int counter = 0; counter < 4; counter++) {
                dueOverflow(y, ", R " + rounds, counter, counter == 2 ? 1 : 0, counter == 2 ? 1 : 0);
            }
        }
        dueOverflow(new CounterBraid(), " of a new object", 11, 0, 0);
    }

    private void flows() {
        doc.says("The flows are the things of the second decoding, with their places in the first layer;");
        // Flows that have not counted are things as well: both could have counted what stands at their place.
        CounterBraid x = Made.braid(new int[] {2, 8, 1, 1, 1, 20}, Made.keysAt(2, 1, 1), new int[] {6});
        dueBounds(x, " of one flow", 0, 6, 6);
        x.addFlow(Made.keysAt(2, 1, 1, 1)[1]);
        dueBounds(x, " of two flows", 0, 0, 6);
        dueBounds(x, " of two flows", 1, 0, 6);
        x.undo();
        dueBounds(x, " of one flow again", 0, 6, 6);

        doc.says("their start is 0;");
        CounterBraid y = Made.woven(0);
        for (int flow = 0; flow < 5; flow++) {
            doc.due("bound(0, " + flow + ", false)", y.bound(0, flow, false), 0);
            doc.due("boundAfter(0, " + flow + ", false, 0)", Made.woven(20).boundAfter(0, flow, false, 0), 0);
        }
    }

    private void sumsOfFlows() {
        doc.says("the least value of the sum at a place is its rest plus 2^D times the lower bound of its overflow, the "
                + "greatest one its rest plus 2^D times the upper one.");
        // Each flow is alone at its counter with the rest 1, and D is 1.
        for (int rounds = 1; rounds <= 3; rounds++) {
            CounterBraid x = overflowChain(rounds);
            for (int i = 0; i < 3; i++) {
                dueBounds(x, ", R " + rounds, i, 1 + 2 * LOWER[rounds][i], 1 + 2 * UPPER[rounds][i]);
            }
        }
        for (int d = 1; d <= 8; d++) {
            int size = 1 << d;
            int[] counts = {5 * size + size - 1, 3 * size + 1};
            CounterBraid x = Made.braid(new int[] {2, d, 1, 1, 1, 1}, Made.keysAt(2, 1, 1, 2), counts);
            dueBounds(x, ", D " + d, 0, size + size - 1, 7 * size + size - 1);
            dueBounds(x, ", D " + d, 1, size + 1, 7 * size + 1);
        }
    }

    private void roundsOfBoth() {
        doc.says("The first decoding is done for R rounds, and then the second one for R rounds;");
        for (int rounds = 0; rounds <= 4; rounds++) {
            int row = Math.min(rounds, 3);
            CounterBraid x = overflowChain(rounds);
            for (int i = 0; i < 3; i++) {
                dueOverflow(x, ", R " + rounds, MARKED[i], LOWER[row][i], UPPER[row][i]);
                int start = rounds == 0 ? 0 : 1 + 2 * LOWER[row][i];
                dueBounds(x, ", R " + rounds, i, start, 1 + 2 * UPPER[row][i]);
            }
        }
        CounterBraid y = overflowChain(3);
        y.setRounds(1);
        dueOverflow(y, ", R 1 again", 12, LOWER[1][2], UPPER[1][2]);
        dueBounds(y, ", R 1 again", 2, 13, 25);
        slowRounds();

        doc.says("R is 0 to 60 (20 at first).");
        CounterBraid z = new CounterBraid();
        doc.due("form(5)", z.form(5), 20);
        doc.due("setRounds(-1)", z.setRounds(-1), -3);
        doc.due("setRounds(61)", z.setRounds(61), -3);
        doc.due("setRounds(0)", z.setRounds(0), 20);
        doc.due("setRounds(60)", z.setRounds(60), 0);
        doc.due("form(5)", z.form(5), 60);
    }

    /** Answers that the model of the document gave; so many rounds are needed here that each of them counts. */
    private void slowRounds() {
        int[] rounds = {19, 20, 21, 22, 23, 24, 25, 60};
        long[] lower = {3678148, 3678148, 3678149, 3678149, 3678150, 3678150, 3678150, 3678150};
        long[] upper = {3678178, 3678176, 3678176, 3678175, 3678175, 3678174, 3678174, 3678174};
        for (int i = 0; i < rounds.length; i++) {
            CounterBraid x = Made.slow(rounds[i]);
            doc.due("total(0, 1), R " + rounds[i], x.total(0, 1), lower[i]);
            doc.due("total(0, 2), R " + rounds[i], x.total(0, 2), upper[i]);
            doc.due("lastRound(0), R " + rounds[i], x.lastRound(0), Math.min(rounds[i], 24));
        }
        int[] first = {0, 1, 17, 18, 19, 20, 60};
        long[] overflows = {1172673, 1172659, 710580, 710578, 710577, 710577, 710577};
        for (int i = 0; i < first.length; i++) {
            CounterBraid x = Made.slowOverflows(first[i]);
            long sum = 0;
            for (int counter = 0; counter < 14; counter++) {
                sum += x.overflow(0, counter, true);
            }
            doc.due("sum of the overflows' upper bounds, R " + first[i], sum, overflows[i]);
        }
    }

    private void certain() {
        doc.says("A flow is certain if its bounds are equal.");
        int[] masks = {0, 1, 1 + 2, 1 + 2 + 4, 1 + 2 + 4};
        for (int rounds = 0; rounds < masks.length; rounds++) {
            doc.due("certain(0), R " + rounds, flowChain(rounds).certain(0), masks[rounds]);
        }
        doc.due("certain(1), 0 to 0 without a round", flowChain(0).certain(1), 7);
        CounterBraid x = Made.braid(new int[] {2, 8, 1, 1, 1, 60}, Made.keysAt(2, 1, 1, 1, 2), new int[] {1, 1, 1});
        doc.due("certain(0), 0 to 2, 0 to 2 and 1 to 1", x.certain(0), 4);
    }
}
