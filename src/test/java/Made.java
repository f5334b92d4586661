/** Objects that several tests begin with, and what they are made of. */
final class Made {
    private static final int[] A = {41, 73, 97, 131}, B = {5, 17, 29, 53};
    private static final int[] E = {19, 37, 61}, F = {3, 11, 23};

    private Made() {
    }

    /** Flows 7, 8 and 300 with the places {0, 4}, {1, 9} and {1, 5, 8}. */
    static CounterBraid threeFlows() {
        CounterBraid x = new CounterBraid();
        x.addFlow(7);
        x.addFlow(8);
        x.addFlow(300);
        return x;
    }

    /** The three flows with counts in both braids, a text without a fault, and a history of five states. */
    static CounterBraid counted() {
        CounterBraid x = threeFlows();
        x.count(0, 0, 5);
        x.count(0, 1, 20);
        x.count(0, 2, 100);
        x.count(1, 0, 9);
        x.count(1, 2, 17);
        typeAll(x, "8+3;9");
        return x;
    }

    static CounterBraid sixteenFlows() {
        CounterBraid x = new CounterBraid();
        for (int key = 0; key < 16; key++) {
            x.addFlow(key);
        }
        return x;
    }

    /** 16 flows with the keys 0 to 15; the true counts of the flow 0 are 1000 million and half of it; a text, "0". */
    static CounterBraid full() {
        CounterBraid x = sixteenFlows();
        fill(x, 1000000);
        typeAll(x, "0");
        return x;
    }

    /** Lets the flow 0 count 124 million and the last number in braid 0, and doubles it thrice; braid 1 has half of it. */
    static void fill(CounterBraid x, int last) {
        for (int i = 0; i < 124; i++) {
            x.count(0, 0, 1000000);
        }
        x.count(0, 0, last);
        for (int i = 0; i < 3; i++) {
            x.clear(1);
            x.addBraid(0, 1);
            x.addBraid(1, 0);
        }
    }

    /**
     * Five flows with the places {1}, {2, 5}, {0, 3}, {2, 3} and {0, 1}; rounds 1 to 4 of the first decoding and
     * 1 to 5 of the second one change bounds. The counters 0 to 5 but 4 are marked; their places above are {1, 3},
     * {2, 3}, {0, 1}, {0, 4} and {3}, where 36, 36, 24, 47 and 22 stand.
     */
    static CounterBraid woven(int rounds) {
        return woven(rounds, new int[] {11, 14, 19, 9, 18}, new int[] {23, 2, 18, 26, 26});
    }

    static CounterBraid woven(int rounds, int[] keys, int[] counts) {
        return braid(new int[] {7, 1, 2, 5, 2, rounds}, keys, counts);
    }

    /** A form, M, D, K, N, Q and R, and flows that have counted in braid 0. */
    static CounterBraid braid(int[] form, int[] keys, int[] counts) {
        CounterBraid x = new CounterBraid();
        x.setFirst(form[0], form[1], form[2]);
        x.setSecond(form[3], form[4]);
        x.setRounds(form[5]);
        for (int i = 0; i < keys.length; i++) {
            x.addFlow(keys[i]);
            x.count(0, i, counts[i]);
        }
        return x;
    }

    /** Rounds 1 to 24 of the second decoding change bounds, if R is 24 or more. */
    static CounterBraid slow(int rounds) {
        return braid(new int[] {19, 3, 3, 16, 2, rounds},
                new int[] {127, 977, 171, 844, 803, 726, 450, 63, 81, 691, 390, 142, 462, 207, 539},
                new int[] {601425, 15, 677182, 1, 1, 317343, 16, 629216, 15, 1, 812734, 15, 620793, 12, 19393});
    }

    /** Rounds 1 to 19 of the first decoding change bounds, if R is 19 or more. */
    static CounterBraid slowOverflows(int rounds) {
        return braid(new int[] {14, 1, 4, 16, 3, rounds}, new int[] {292, 702, 882, 910},
                new int[] {21, 154011, 9, 201233});
    }

    static CounterBraid withText(String text) {
        CounterBraid x = new CounterBraid();
        typeAll(x, text);
        return x;
    }

    static void typeAll(CounterBraid x, String text) {
        for (int i = 0; i < text.length(); i++) {
            x.type(text.charAt(i));
        }
    }

    /** The mask of a flow's places, as the document has them. */
    static int placesOfKey(int key, int m, int k) {
        int mask = 0;
        for (int f = 0; f < k; f++) {
            mask |= 1 << (key * A[f] + B[f]) % 1009 % m;
        }
        return mask;
    }

    /** The mask of a counter's places in the second layer, as the document has them. */
    static int placesOfCounter(int counter, int n, int q) {
        int mask = 0;
        for (int f = 0; f < q; f++) {
            mask |= 1 << (counter * E[f] + F[f]) % 103 % n;
        }
        return mask;
    }

    /** Keys, another one each, whose flows have these masks of places. */
    static int[] keysAt(int m, int k, int... masks) {
        int[] keys = new int[masks.length];
        boolean[] taken = new boolean[1000];
        for (int i = 0; i < masks.length; i++) {
            int key = 0;
            while (taken[key] || placesOfKey(key, m, k) != masks[i]) {
                key++;
            }
            taken[key] = true;
            keys[i] = key;
        }
        return keys;
    }

    /** The first counter that has this mask of places in the second layer. */
    static int counterAt(int n, int q, int mask) {
        int counter = 0;
        while (placesOfCounter(counter, n, q) != mask) {
            counter++;
        }
        return counter;
    }
}
