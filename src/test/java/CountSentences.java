/** "Counting" in the document's description. */
final class CountSentences {
    /** Two counters of 2 bits; flow 0 at the counter 0, flow 1 at the counter 1, flow 2 at both. */
    private static final int[] KEYS = Made.keysAt(2, 2, 1, 2, 3);

    private final Sentences doc;

    CountSentences(Sentences doc) {
        this.doc = doc;
    }

    void all() {
        doc.from("Counting");
        counters();
        allAreZero();
        count();
        countOverflows();
        countTruths();
        addNumbers();
        addRests();
        addMarks();
        addTruths();
    }

    /** The counter 0 has the places {0, 2} in the second layer, the counter 1 the places {0, 1}. */
    private static CounterBraid small() {
        CounterBraid x = new CounterBraid();
        x.setFirst(2, 2, 2);
        x.setSecond(3, 2);
        for (int key : KEYS) {
            x.addFlow(key);
        }
        return x;
    }

    private void dueBraid(CounterBraid x, int braid, int[] rests, int[] marks, int[] above) {
        for (int counter = 0; counter < 2; counter++) {
            doc.due("rest(" + braid + ", " + counter + ")", x.rest(braid, counter), rests[counter]);
            doc.due("isMarked(" + braid + ", " + counter + ")", x.isMarked(braid, counter), marks[counter]);
        }
        for (int counter = 0; counter < 3; counter++) {
            doc.due("above(" + braid + ", " + counter + ")", x.above(braid, counter), above[counter]);
        }
    }

    private void counters() {
        doc.says("A counter of the first layer holds a rest, 0 to 2^D - 1,");
        CounterBraid x = small();
        for (int n = 1; n <= 9; n++) {
            x.count(0, 0, 1);
            doc.due("rest(0, 0) behind " + n, x.rest(0, 0), n % 4);
        }

        doc.says("and a mark, 0 or 1;");
        CounterBraid y = small();
        doc.due("isMarked(0, 0)", y.isMarked(0, 0), 0);
        for (int n = 1; n <= 13; n++) {
            y.count(0, 0, 1);
            doc.due("isMarked(0, 0) behind " + n, y.isMarked(0, 0), n < 4 ? 0 : 1);
        }

        doc.says("a counter of the second layer holds a number.");
        CounterBraid z = small();
        for (int n = 0; n < 300; n++) {
            z.count(0, 0, 1000000);
        }
        doc.due("above(0, 0)", z.above(0, 0), 75000000);
        doc.due("above(0, 1)", z.above(0, 1), 0);
        doc.due("above(0, 2)", z.above(0, 2), 75000000);
        numberAboveInt();
    }

    private void numberAboveInt() {
        CounterBraid most = new CounterBraid();
        most.setFirst(2, 1, 4);
        most.setSecond(1, 3);
        int[] keys = Made.keysAt(2, 4, 3, 3, 3, 3, 3, 3, 3, 3, 3, 3, 3, 3, 3, 3, 3, 3);
        for (int flow = 0; flow < 16; flow++) {
            most.addFlow(keys[flow]);
            for (int n = 0; n < 16; n++) {
                most.count(0, flow, 1000000);
            }
        }
        for (int n = 0; n < 2; n++) {
            most.addBraid(0, 1);
            most.addBraid(1, 0);
        }
        // Each of 16 flows has counted 16 million five times; two counters each bring the half of it here.
        doc.due("above(0, 0) of all", most.above(0, 0), 16 * 16000000L * 5);
        most.clear(1);
        most.addBraid(0, 1);
        most.addBraid(1, 0);
        doc.due("above(0, 0), above the greatest int", most.above(0, 0), 16 * 16000000L * 10);
        doc.due("total(0, 3)", most.total(0, 3), 16 * 16000000L * 10);
    }

    private void allAreZero() {
        doc.says("All are 0 at first.");
        dueBraid(small(), 0, new int[2], new int[2], new int[3]);
        dueBraid(small(), 1, new int[2], new int[2], new int[3]);
        CounterBraid x = new CounterBraid();
        for (int braid = 0; braid < 2; braid++) {
            for (int counter = 0; counter < 12; counter++) {
                doc.due("rest", x.rest(braid, counter), 0);
                doc.due("isMarked", x.isMarked(braid, counter), 0);
            }
            for (int counter = 0; counter < 6; counter++) {
                doc.due("above", x.above(braid, counter), 0);
            }
        }
    }

    private void count() {
        doc.says("If a flow counts by n, n is added to the rest of each of its places;");
        CounterBraid x = small();
        x.count(0, 2, 1);
        dueBraid(x, 0, new int[] {1, 1}, new int[2], new int[3]);
        x.count(0, 0, 1);
        dueBraid(x, 0, new int[] {2, 1}, new int[2], new int[3]);
        x.count(0, 1, 2);
        dueBraid(x, 0, new int[] {2, 3}, new int[2], new int[3]);
        dueBraid(x, 1, new int[2], new int[2], new int[3]);

        doc.says("if that gives s, the rest becomes s modulo 2^D,");
        x.count(0, 2, 3);
        doc.due("rest(0, 0), 2 + 3", x.rest(0, 0), 1);
        doc.due("rest(0, 1), 3 + 3", x.rest(0, 1), 2);
        x.count(0, 2, 1000000);
        doc.due("rest(0, 0), 1 + 1000000", x.rest(0, 0), 1);
        x.count(0, 0, 999999);
        doc.due("rest(0, 0), 1 + 999999", x.rest(0, 0), 0);
        x.count(0, 0, 999999);
        doc.due("rest(0, 0), 0 + 999999", x.rest(0, 0), 3);
    }

    private void countOverflows() {
        doc.says("and if s / 2^D (rounded down), the overflow, is above 0, the mark becomes 1,");
        CounterBraid x = small();
        x.count(0, 2, 3);
        dueBraid(x, 0, new int[] {3, 3}, new int[] {0, 0}, new int[3]);
        x.count(0, 1, 1);
        dueBraid(x, 0, new int[] {3, 0}, new int[] {0, 1}, new int[] {1, 1, 0});
        CounterBraid atOnce = small();
        atOnce.count(1, 0, 4);
        dueBraid(atOnce, 1, new int[] {0, 0}, new int[] {1, 0}, new int[] {1, 0, 1});

        doc.says("and the overflow is added to each place of this counter in the second layer.");
        x.count(0, 0, 11);
        dueBraid(x, 0, new int[] {2, 0}, new int[] {1, 1}, new int[] {4, 1, 3});
        x.count(0, 2, 9);
        dueBraid(x, 0, new int[] {3, 1}, new int[] {1, 1}, new int[] {8, 3, 5});
        x.count(0, 1, 2);
        dueBraid(x, 0, new int[] {3, 3}, new int[] {1, 1}, new int[] {8, 3, 5});
    }

    private void countTruths() {
        doc.says("The true count of the flow in this braid increases by n.");
        CounterBraid x = small();
        doc.due("count(1, 1, 1)", x.count(1, 1, 1), 1);
        doc.due("count(1, 1, 1000000)", x.count(1, 1, 1000000), 1000001);
        doc.due("truth(1, 1)", x.truth(1, 1), 1000001);
        doc.due("truth(0, 1)", x.truth(0, 1), 0);
        doc.due("truth(1, 0)", x.truth(1, 0), 0);
        doc.due("truth(1, 2)", x.truth(1, 2), 0);
    }

    /** Braid 0 has the rests 3 and 1 and no marks, braid 1 the rests 2 and 2 and the mark of the counter 1. */
    private static CounterBraid smallBraids() {
        CounterBraid x = small();
        x.count(0, 0, 3);
        x.count(0, 1, 1);
        x.count(1, 0, 2);
        x.count(1, 1, 14);
        return x;
    }

    private void addNumbers() {
        doc.says("To add braid b to braid a means: the numbers of the second layer are added;");
        CounterBraid x = small();
        x.count(0, 0, 8);
        x.count(1, 0, 12);
        x.count(1, 1, 4);
        x.addBraid(1, 0);
        dueBraid(x, 0, new int[2], new int[] {1, 1}, new int[] {6, 1, 5});
        dueBraid(x, 1, new int[2], new int[] {1, 1}, new int[] {4, 1, 3});
    }

    private void addRests() {
        doc.says("for each counter of the first layer in ascending order, the rest of b is added to that of a, "
                + "with an overflow as above,");
        CounterBraid x = smallBraids();
        dueBraid(x, 0, new int[] {3, 1}, new int[2], new int[3]);
        dueBraid(x, 1, new int[] {2, 2}, new int[] {0, 1}, new int[] {3, 3, 0});
        x.addBraid(1, 0);
        doc.due("rest(0, 0), 3 + 2", x.rest(0, 0), 1);
        doc.due("rest(0, 1), 1 + 2", x.rest(0, 1), 3);
        doc.due("above(0, 0), and the overflow of the counter 0", x.above(0, 0), 3 + 1);
        doc.due("above(0, 1)", x.above(0, 1), 3);
        doc.due("above(0, 2), and the overflow of the counter 0", x.above(0, 2), 1);
        CounterBraid last = new CounterBraid();
        last.setFirst(24, 1, 1);
        last.addFlow(Made.keysAt(24, 1, 1 << 23)[0]);
        last.count(0, 0, 1);
        last.count(1, 0, 1);
        last.addBraid(0, 1);
        doc.due("rest(1, 23), 1 + 1", last.rest(1, 23), 0);
        doc.due("isMarked(1, 23)", last.isMarked(1, 23), 1);
        doc.due("total(1, 3)", last.total(1, 3), Integer.bitCount(Made.placesOfCounter(23, 6, 2)));
    }

    private void addMarks() {
        doc.says("and the mark is 1 if it is 1 in one of both, or there is such an overflow;");
        CounterBraid x = smallBraids();
        x.addBraid(1, 0);
        doc.due("isMarked(0, 0), an overflow", x.isMarked(0, 0), 1);
        doc.due("isMarked(0, 1), marked in b", x.isMarked(0, 1), 1);
        CounterBraid y = smallBraids();
        y.addBraid(0, 1);
        doc.due("isMarked(1, 0), an overflow", y.isMarked(1, 0), 1);
        doc.due("isMarked(1, 1), marked in a", y.isMarked(1, 1), 1);
        doc.due("isMarked(0, 0), braid b", y.isMarked(0, 0), 0);
        CounterBraid none = small();
        none.count(0, 2, 1);
        none.count(1, 2, 2);
        none.addBraid(0, 1);
        doc.due("isMarked(1, 0), no overflow", none.isMarked(1, 0), 0);
        doc.due("isMarked(1, 1), no overflow", none.isMarked(1, 1), 0);
        doc.due("rest(1, 0)", none.rest(1, 0), 3);
        CounterBraid both = small();
        both.count(0, 0, 4);
        both.count(1, 0, 4);
        both.addBraid(0, 1);
        doc.due("isMarked(1, 0), marked in both", both.isMarked(1, 0), 1);
        doc.due("isMarked(1, 1), in none", both.isMarked(1, 1), 0);
    }

    private void addTruths() {
        doc.says("the true counts are added.");
        CounterBraid x = smallBraids();
        x.addBraid(1, 0);
        doc.due("truth(0, 0)", x.truth(0, 0), 5);
        doc.due("truth(0, 1)", x.truth(0, 1), 15);
        doc.due("truth(0, 2)", x.truth(0, 2), 0);

        doc.says("Braid b stays as it is.");
        dueBraid(x, 1, new int[] {2, 2}, new int[] {0, 1}, new int[] {3, 3, 0});
        doc.due("truth(1, 0)", x.truth(1, 0), 2);
        doc.due("truth(1, 1)", x.truth(1, 1), 14);
        x.count(0, 0, 1);
        doc.due("truth(1, 0), later", x.truth(1, 0), 2);
        doc.due("rest(1, 0), later", x.rest(1, 0), 2);
        x.count(1, 0, 1);
        doc.due("truth(0, 0), later", x.truth(0, 0), 6);
    }
}
