import java.util.function.Supplier;

/** The promises 1 to 10, "form and flows". */
final class FormPromises {
    private static final int LEAST = Integer.MIN_VALUE, MOST = Integer.MAX_VALUE;

    private final Sentences doc;

    FormPromises(Sentences doc) {
        this.doc = doc;
    }

    void all() {
        newObject();
        setFirst();
        setFirstRanges();
        setSecond();
        setSecondRanges();
        setRounds();
        form();
        addFlow();
        addFlowErrors();
        key();
        flowOf();
        places();
        placesAbove();
    }

    private void newObject() {
        doc.from("Promise 1");
        doc.says("Creates two braids of the form that is described, without flows, and with an empty text.");
        CounterBraid x = new CounterBraid();
        int[] form = {12, 3, 3, 6, 2, 20, 0};
        for (int what = 0; what < form.length; what++) {
            doc.due("form(" + what + ")", x.form(what), form[what]);
        }
        for (int braid = 0; braid < 2; braid++) {
            for (int what = 0; what < 4; what++) {
                doc.due("total(" + braid + ", " + what + ")", x.total(braid, what), 0);
            }
            doc.due("certain(" + braid + ")", x.certain(braid), 0);
            doc.due("certainOverflows(" + braid + ")", x.certainOverflows(braid), 4095);
            doc.due("lastRound(" + braid + ")", x.lastRound(braid), 0);
            doc.due("leastSpace(" + braid + ")", x.leastSpace(braid), 2);
            doc.due("truth(" + braid + ", 0)", x.truth(braid, 0), -2);
        }
        doc.due("key(0)", x.key(0), -2);
        doc.due("textFault()", x.textFault(), 0);
        doc.due("undo()", x.undo(), -4);
        doc.due("clearText()", x.clearText(), 0);
        CounterBraid other = Made.counted();
        doc.due("digest() of a new object beside another one", new CounterBraid().digest(), x.digest());
        x.addFlow(1);
        x.count(0, 0, 999);
        doc.dueSame("of another object", other, Made.counted());
    }

    /** Everything of both braids is 0; the flows are those of Made.counted(). */
    private void dueEmpty(CounterBraid x) {
        for (int braid = 0; braid < 2; braid++) {
            for (int counter = 0; counter < x.form(0); counter++) {
                doc.due("rest(" + braid + ", " + counter + ")", x.rest(braid, counter), 0);
                doc.due("isMarked(" + braid + ", " + counter + ")", x.isMarked(braid, counter), 0);
            }
            for (int counter = 0; counter < x.form(3); counter++) {
                doc.due("above(" + braid + ", " + counter + ")", x.above(braid, counter), 0);
            }
            for (int flow = 0; flow < 3; flow++) {
                doc.due("truth(" + braid + ", " + flow + ")", x.truth(braid, flow), 0);
            }
        }
    }

    private void dueThreeFlows(CounterBraid x) {
        doc.due("form(6)", x.form(6), 3);
        doc.due("key(0)", x.key(0), 7);
        doc.due("key(1)", x.key(1), 8);
        doc.due("key(2)", x.key(2), 300);
    }

    private void setFirst() {
        doc.from("Promise 2");
        doc.says("Sets the first layer.");
        CounterBraid x = new CounterBraid();
        x.setFirst(23, 7, 4);
        int[] form = {23, 7, 4, 6, 2, 20, 0};
        for (int what = 0; what < form.length; what++) {
            doc.due("form(" + what + ")", x.form(what), form[what]);
        }

        doc.says("All counters, marks and true counts of both braids become 0;");
        int[][] forms = {{12, 3, 3}, {24, 3, 3}, {2, 1, 1}, {12, 8, 3}, {12, 3, 4}};
        for (int[] row : forms) {
            CounterBraid y = Made.counted();
            y.setFirst(row[0], row[1], row[2]);
            dueEmpty(y);
        }
        CounterBraid smaller = Made.counted();
        smaller.setFirst(2, 3, 3);
        smaller.setFirst(12, 3, 3);
        dueEmpty(smaller);

        doc.says("the flows stay.");
        dueThreeFlows(smaller);
        doc.due("flowOf(300)", smaller.flowOf(300), 2);

        doc.says("Recorded.");
        doc.dueRecorded(CounterBraid::new, "setFirst(12, 3, 3)", y -> y.setFirst(12, 3, 3));
        doc.dueRecorded(Made::counted, "setFirst(12, 3, 3)", y -> y.setFirst(12, 3, 3));
        doc.dueRecorded(Made::counted, "setFirst(2, 8, 1)", y -> y.setFirst(2, 8, 1));
    }

    private void setFirstRanges() {
        doc.says("counters: M, 2 to 24");
        dueSetFirst(0, new int[] {2, 24}, new int[] {1, 25, 0, -1, LEAST, MOST});

        doc.says("bits: D, 1 to 8");
        dueSetFirst(1, new int[] {1, 8}, new int[] {0, 9, -1, LEAST, MOST});

        doc.says("functions: K, 1 to 4");
        dueSetFirst(2, new int[] {1, 4}, new int[] {0, 5, -1, LEAST, MOST});

        doc.says("Returns the previous M;");
        CounterBraid x = new CounterBraid();
        doc.due("setFirst(2, 5, 1)", x.setFirst(2, 5, 1), 12);
        doc.due("setFirst(24, 4, 2)", x.setFirst(24, 4, 2), 2);
        doc.due("setFirst(24, 3, 3)", x.setFirst(24, 3, 3), 24);
        x.setFirst(25, 3, 3);
        doc.due("setFirst(3, 3, 3)", x.setFirst(3, 3, 3), 24);
        x.undo();
        doc.due("setFirst(4, 3, 3) behind undo()", x.setFirst(4, 3, 3), 24);

        doc.says("BAD_VALUE if an argument is out of range.");
        int[][] wrong = {{1, 3, 3}, {25, 3, 3}, {12, 0, 3}, {12, 9, 3}, {12, 3, 0}, {12, 3, 5}, {1, 0, 0}, {25, 9, 5},
            {LEAST, LEAST, LEAST}, {MOST, MOST, MOST}};
        for (int[] a : wrong) {
            doc.dueUnchanged(Made::counted, "setFirst(" + a[0] + ", " + a[1] + ", " + a[2] + ")",
                    y -> y.setFirst(a[0], a[1], a[2]), -3);
        }
    }

    private void dueSetFirst(int argument, int[] right, int[] wrong) {
        int[] a = {12, 3, 3};
        for (int value : right) {
            a[argument] = value;
            CounterBraid x = new CounterBraid();
            doc.due("setFirst(" + a[0] + ", " + a[1] + ", " + a[2] + ")", x.setFirst(a[0], a[1], a[2]), 12);
            doc.due("form(" + argument + ")", x.form(argument), value);
        }
        for (int value : wrong) {
            a[argument] = value;
            CounterBraid x = new CounterBraid();
            doc.due("setFirst(" + a[0] + ", " + a[1] + ", " + a[2] + ")", x.setFirst(a[0], a[1], a[2]), -3);
            doc.due("form(" + argument + ")", x.form(argument), argument == 0 ? 12 : 3);
        }
    }

    private void setSecond() {
        doc.from("Promise 3");
        doc.says("Sets the second layer.");
        CounterBraid x = new CounterBraid();
        x.setSecond(15, 3);
        int[] form = {12, 3, 3, 15, 3, 20, 0};
        for (int what = 0; what < form.length; what++) {
            doc.due("form(" + what + ")", x.form(what), form[what]);
        }

        doc.says("All counters, marks and true counts of both braids become 0;");
        int[][] forms = {{6, 2}, {16, 3}, {1, 1}, {6, 1}};
        for (int[] row : forms) {
            CounterBraid y = Made.counted();
            y.setSecond(row[0], row[1]);
            dueEmpty(y);
        }
        CounterBraid smaller = Made.counted();
        smaller.setSecond(1, 2);
        smaller.setSecond(6, 2);
        dueEmpty(smaller);

        doc.says("the flows stay.");
        dueThreeFlows(smaller);
        doc.due("flowOf(300)", smaller.flowOf(300), 2);

        doc.says("Recorded.");
        doc.dueRecorded(CounterBraid::new, "setSecond(6, 2)", y -> y.setSecond(6, 2));
        doc.dueRecorded(Made::counted, "setSecond(6, 2)", y -> y.setSecond(6, 2));
        doc.dueRecorded(Made::counted, "setSecond(1, 3)", y -> y.setSecond(1, 3));
    }

    private void setSecondRanges() {
        doc.says("counters: N, 1 to 16");
        for (int n : new int[] {1, 16}) {
            CounterBraid x = new CounterBraid();
            doc.due("setSecond(" + n + ", 2)", x.setSecond(n, 2), 6);
            doc.due("form(3)", x.form(3), n);
        }
        for (int n : new int[] {0, 17, -1, LEAST, MOST}) {
            CounterBraid x = new CounterBraid();
            doc.due("setSecond(" + n + ", 2)", x.setSecond(n, 2), -3);
            doc.due("form(3)", x.form(3), 6);
        }

        doc.says("functions: Q, 1 to 3");
        for (int q : new int[] {1, 3}) {
            CounterBraid x = new CounterBraid();
            doc.due("setSecond(6, " + q + ")", x.setSecond(6, q), 6);
            doc.due("form(4)", x.form(4), q);
        }
        for (int q : new int[] {0, 4, -1, LEAST, MOST}) {
            CounterBraid x = new CounterBraid();
            doc.due("setSecond(6, " + q + ")", x.setSecond(6, q), -3);
            doc.due("form(4)", x.form(4), 2);
        }

        doc.says("Returns the previous N;");
        CounterBraid x = new CounterBraid();
        doc.due("setSecond(1, 3)", x.setSecond(1, 3), 6);
        doc.due("setSecond(16, 2)", x.setSecond(16, 2), 1);
        doc.due("setSecond(16, 1)", x.setSecond(16, 1), 16);
        x.setSecond(17, 1);
        doc.due("setSecond(3, 1)", x.setSecond(3, 1), 16);

        doc.says("BAD_VALUE if an argument is out of range.");
        int[][] wrong = {{0, 2}, {17, 2}, {6, 0}, {6, 4}, {0, 0}, {17, 4}, {LEAST, LEAST}, {MOST, MOST}};
        for (int[] a : wrong) {
            doc.dueUnchanged(Made::counted, "setSecond(" + a[0] + ", " + a[1] + ")", y -> y.setSecond(a[0], a[1]), -3);
        }
    }

    private void setRounds() {
        doc.from("Promise 4");
        doc.says("Sets the rounds.");
        CounterBraid x = Made.counted();
        long[] before = {x.total(0, 0), x.total(1, 0), x.total(0, 3), x.total(1, 3)};
        x.setRounds(17);
        int[] form = {12, 3, 3, 6, 2, 17, 3};
        for (int what = 0; what < form.length; what++) {
            doc.due("form(" + what + ")", x.form(what), form[what]);
        }
        long[] after = {x.total(0, 0), x.total(1, 0), x.total(0, 3), x.total(1, 3)};
        for (int i = 0; i < before.length; i++) {
            doc.due("sum " + i + ", which stays", after[i], before[i]);
        }
        doc.due("isMarked(0, 1)", x.isMarked(0, 1), 1);

        doc.says("Recorded.");
        doc.dueRecorded(CounterBraid::new, "setRounds(20)", y -> y.setRounds(20));
        doc.dueRecorded(Made::counted, "setRounds(0)", y -> y.setRounds(0));

        doc.says("rounds: R, 0 to 60");
        for (int rounds = 0; rounds <= 60; rounds++) {
            x.setRounds(rounds);
            doc.due("form(5)", x.form(5), rounds);
        }

        doc.says("Returns the previous R;");
        CounterBraid z = new CounterBraid();
        doc.due("setRounds(0)", z.setRounds(0), 20);
        doc.due("setRounds(60)", z.setRounds(60), 0);
        doc.due("setRounds(60)", z.setRounds(60), 60);
        z.setRounds(61);
        doc.due("setRounds(1)", z.setRounds(1), 60);

        doc.says("BAD_VALUE if rounds is out of range.");
        for (int rounds : new int[] {-1, 61, 62, LEAST, MOST}) {
            doc.dueUnchanged(Made::counted, "setRounds(" + rounds + ")", y -> y.setRounds(rounds), -3);
        }
    }

    private void form() {
        doc.from("Promise 5");
        doc.says("Returns a number of the form.");
        int[] form = {12, 3, 3, 6, 2, 20, 3};
        for (int what = 0; what <= 6; what++) {
            int asked = what;
            doc.dueUnchanged(Made::counted, "form(" + what + ")", x -> x.form(asked), form[what]);
        }

        doc.says("what: 0 M, 1 D, 2 K, 3 N, 4 Q, 5 R, 6 how many flows there are");
        CounterBraid x = new CounterBraid();
        doc.due("form(6) without flows", x.form(6), 0);
        x.setFirst(24, 8, 4);
        x.setSecond(16, 3);
        x.setRounds(60);
        for (int key = 0; key < 17; key++) {
            x.addFlow(key);
        }
        int[] most = {24, 8, 4, 16, 3, 60, 16};
        for (int what = 0; what <= 6; what++) {
            doc.due("form(" + what + ") of the greatest form", x.form(what), most[what]);
        }

        doc.says("Returns the number;");
        x.setFirst(2, 1, 1);
        x.setSecond(1, 1);
        x.setRounds(0);
        x.undo();
        int[] least = {2, 1, 1, 1, 1, 60, 16};
        for (int what = 0; what <= 6; what++) {
            doc.due("form(" + what + ") of the least form", x.form(what), least[what]);
        }

        doc.says("BAD_VALUE if what is out of range.");
        for (int what : new int[] {-1, 7, 8, LEAST, MOST}) {
            doc.dueUnchanged(Made::counted, "form(" + what + ")", y -> y.form(what), -3);
        }
    }

    private void addFlow() {
        doc.from("Promise 6");
        doc.says("Adds a flow.");
        CounterBraid x = Made.counted();
        x.addFlow(55);
        doc.due("form(6)", x.form(6), 4);
        doc.due("key(3)", x.key(3), 55);
        doc.due("flowOf(55)", x.flowOf(55), 3);
        doc.due("truth(0, 3)", x.truth(0, 3), 0);
        doc.due("truth(1, 3)", x.truth(1, 3), 0);
        doc.due("truth(0, 2) stays", x.truth(0, 2), 100);
        doc.due("total(0, 3) stays", x.total(0, 3), Made.counted().total(0, 3));
        // A flow that was undone has no true count left for the next one with its number.
        x.count(0, 3, 9);
        x.undo();
        x.undo();
        x.addFlow(56);
        doc.due("truth(0, 3) of a new flow behind undo()", x.truth(0, 3), 0);

        doc.says("Recorded.");
        doc.dueRecorded(CounterBraid::new, "addFlow(0)", y -> y.addFlow(0));
        doc.dueRecorded(Made::counted, "addFlow(999)", y -> y.addFlow(999));

        doc.says("key: 0 to 999");
        doc.due("addFlow(0)", new CounterBraid().addFlow(0), 0);
        doc.due("addFlow(999)", new CounterBraid().addFlow(999), 0);

        doc.says("Returns its number;");
        CounterBraid z = new CounterBraid();
        for (int flow = 0; flow < 16; flow++) {
            doc.due("addFlow(" + (999 - flow) + ")", z.addFlow(999 - flow), flow);
        }
    }

    private void addFlowErrors() {
        doc.says("BAD_VALUE if key is out of range;");
        for (int key : new int[] {-1, 1000, LEAST, MOST}) {
            doc.dueUnchanged(CounterBraid::new, "addFlow(" + key + ")", y -> y.addFlow(key), -3);
            doc.dueUnchanged(Made::sixteenFlows, "addFlow(" + key + ") of 16 flows", y -> y.addFlow(key), -3);
        }

        doc.says("BAD_STATE if there is a flow with this key;");
        for (int key : new int[] {7, 8, 300}) {
            doc.dueUnchanged(Made::counted, "addFlow(" + key + ")", y -> y.addFlow(key), -4);
        }
        doc.dueUnchanged(Made::sixteenFlows, "addFlow(0) of 16 flows", y -> y.addFlow(0), -4);
        doc.dueUnchanged(Made::sixteenFlows, "addFlow(15) of 16 flows", y -> y.addFlow(15), -4);
        // The key 0 stands in no unused row.
        doc.due("addFlow(0)", Made.counted().addFlow(0), 3);

        doc.says("FULL if there are 16 flows.");
        for (int key : new int[] {16, 999}) {
            doc.dueUnchanged(Made::sixteenFlows, "addFlow(" + key + ") of 16 flows", y -> y.addFlow(key), -5);
        }
        CounterBraid x = Made.sixteenFlows();
        x.undo();
        doc.due("addFlow(16) of 15 flows", x.addFlow(16), 15);
        doc.due("addFlow(17) of 16 flows", x.addFlow(17), -5);
    }

    private void key() {
        doc.from("Promise 7");
        doc.says("Returns the key of a flow.");
        doc.dueUnchanged(Made::counted, "key(1)", x -> x.key(1), 8);

        doc.says("flow: its number");
        doc.due("key(0)", Made.threeFlows().key(0), 7);
        doc.due("key(2)", Made.threeFlows().key(2), 300);
        doc.due("key(15)", Made.sixteenFlows().key(15), 15);

        doc.says("Returns the key;");
        CounterBraid x = new CounterBraid();
        x.addFlow(999);
        x.addFlow(0);
        doc.due("key(0)", x.key(0), 999);
        doc.due("key(1)", x.key(1), 0);

        doc.says("BAD_INDEX if there is no such flow.");
        dueNoFlow("key", (y, flow) -> y.key(flow));
    }

    /** A call for a flow of an object. */
    private interface FlowCall {
        long on(CounterBraid x, int flow);
    }

    private void dueNoFlow(String name, FlowCall call) {
        doc.dueUnchanged(CounterBraid::new, name + "(0) of none", x -> call.on(x, 0), -2);
        for (int flow : new int[] {-1, 3, 16, LEAST, MOST}) {
            doc.dueUnchanged(Made::counted, name + "(" + flow + ") of three", x -> call.on(x, flow), -2);
        }
        doc.dueUnchanged(Made::sixteenFlows, name + "(16) of 16", x -> call.on(x, 16), -2);
        CounterBraid x = Made.threeFlows();
        x.undo();
        doc.due(name + "(2) behind undo()", call.on(x, 2), -2);
    }

    private void flowOf() {
        doc.from("Promise 8");
        doc.says("Returns the flow with a key.");
        doc.dueUnchanged(Made::counted, "flowOf(300)", x -> x.flowOf(300), 2);

        doc.says("key: 0 to 999");
        CounterBraid x = new CounterBraid();
        x.addFlow(0);
        x.addFlow(999);
        doc.due("flowOf(0)", x.flowOf(0), 0);
        doc.due("flowOf(999)", x.flowOf(999), 1);

        doc.says("Returns its number;");
        CounterBraid sixteen = Made.sixteenFlows();
        for (int key = 0; key < 16; key++) {
            doc.due("flowOf(" + key + ")", sixteen.flowOf(key), key);
        }

        doc.says("NONE if there is none;");
        Supplier<CounterBraid> none = CounterBraid::new;
        doc.dueUnchanged(none, "flowOf(0) of none", y -> y.flowOf(0), -1);
        doc.dueUnchanged(none, "flowOf(999) of none", y -> y.flowOf(999), -1);
        doc.dueUnchanged(Made::counted, "flowOf(0) of three", y -> y.flowOf(0), -1);
        doc.dueUnchanged(Made::sixteenFlows, "flowOf(16) of 16", y -> y.flowOf(16), -1);
        CounterBraid undone = Made.threeFlows();
        undone.undo();
        doc.due("flowOf(300) behind undo()", undone.flowOf(300), -1);

        doc.says("BAD_VALUE if key is out of range.");
        for (int key : new int[] {-1, 1000, LEAST, MOST}) {
            doc.dueUnchanged(none, "flowOf(" + key + ")", y -> y.flowOf(key), -3);
            doc.dueUnchanged(Made::counted, "flowOf(" + key + ") of three", y -> y.flowOf(key), -3);
        }
    }

    private void places() {
        doc.from("Promise 9");
        doc.says("Returns the places of a flow.");
        doc.dueUnchanged(Made::counted, "places(1)", x -> x.places(1), (1 << 1) + (1 << 9));

        doc.says("flow: its number");
        doc.due("places(0)", Made.threeFlows().places(0), (1 << 0) + (1 << 4));
        doc.due("places(2)", Made.threeFlows().places(2), (1 << 1) + (1 << 5) + (1 << 8));
        doc.due("places(15) of 16", Made.sixteenFlows().places(15), Made.placesOfKey(15, 12, 3));

        doc.says("Returns the mask, the sum of 2^c for each place c;");
        CounterBraid x = new CounterBraid();
        x.addFlow(Made.keysAt(24, 1, 1 << 23)[0]);
        x.setFirst(24, 8, 1);
        doc.due("places(0) at the last counter", x.places(0), 1 << 23);
        CounterBraid y = new CounterBraid();
        y.addFlow(Made.keysAt(24, 1, 1)[0]);
        y.setFirst(24, 8, 1);
        doc.due("places(0) at the first counter", y.places(0), 1);
        CounterBraid both = new CounterBraid();
        both.addFlow(Made.keysAt(2, 4, 3)[0]);
        both.setFirst(2, 1, 4);
        doc.due("places(0) at both counters", both.places(0), 1 + 2);

        doc.says("BAD_INDEX if there is no such flow.");
        dueNoFlow("places", (z, flow) -> z.places(flow));
    }

    private void placesAbove() {
        doc.from("Promise 10");
        doc.says("Returns the places of a counter of the first layer.");
        // The counter 1 has the values 22 and 48 ahead of "modulo 6".
        doc.dueUnchanged(Made::counted, "placesAbove(1)", x -> x.placesAbove(1), (1 << 4) + (1 << 0));

        doc.says("counter: 0 to M - 1");
        for (int m = 2; m <= 24; m += 11) {
            CounterBraid x = new CounterBraid();
            x.setFirst(m, 3, 3);
            doc.due("placesAbove(0) of " + m, x.placesAbove(0), (1 << 3) + (1 << 5));
            doc.due("placesAbove(" + (m - 1) + ")", x.placesAbove(m - 1), Made.placesOfCounter(m - 1, 6, 2));
            doc.due("placesAbove(" + m + ")", x.placesAbove(m), -2);
        }

        doc.says("Returns the mask, the sum of 2^c for each place c in the second layer;");
        CounterBraid y = new CounterBraid();
        y.setSecond(16, 1);
        // The counters 0 and 10 have the values 3 and 193 - 103 ahead of "modulo 16".
        doc.due("placesAbove(0)", y.placesAbove(0), 1 << 3);
        doc.due("placesAbove(10)", y.placesAbove(10), 1 << 10);
        y.setFirst(24, 3, 3);
        int last = Made.counterAt(16, 1, 1 << 15);
        doc.due("placesAbove(" + last + ") at the last place", y.placesAbove(last), 1 << 15);
        y.setSecond(1, 3);
        doc.due("placesAbove(23) of one", y.placesAbove(23), 1);

        doc.says("BAD_INDEX if there is no such counter.");
        for (int counter : new int[] {-1, 12, 24, LEAST, MOST}) {
            doc.dueUnchanged(Made::counted, "placesAbove(" + counter + ")", x -> x.placesAbove(counter), -2);
        }
        doc.due("placesAbove(24) of 24", y.placesAbove(24), -2);
    }
}
