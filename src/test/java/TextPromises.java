import java.math.BigInteger;

/** The promises 32 to 36, "text". */
final class TextPromises {
    private static final int LEAST = Integer.MIN_VALUE, MOST = Integer.MAX_VALUE;

    private final Sentences doc;

    TextPromises(Sentences doc) {
        this.doc = doc;
    }

    void all() {
        type();
        clearText();
        textFault();
        load();
        loadErrors();
        digest();
    }

    private void type() {
        doc.from("Promise 32");
        doc.says("Appends a byte to the text.");
        CounterBraid x = new CounterBraid();
        x.type('5');
        x.type('3');
        x.load();
        doc.due("key(0), in the order of the bytes", x.key(0), 53);
        doc.due("type is not recorded; undo()", x.undo(), 0);

        doc.says("code: the byte, 0 to 255");
        for (int code = 0; code <= 255; code++) {
            CounterBraid y = new CounterBraid();
            doc.due("type(" + code + ")", y.type(code), 1);
            doc.due("clearText()", y.clearText(), 1);
        }

        doc.says("Returns the length of the text;");
        CounterBraid z = new CounterBraid();
        for (int length = 1; length <= 100; length++) {
            doc.due("type(32)", z.type(32), length);
        }
        z.clearText();
        doc.due("type(32) behind clearText()", z.type(32), 1);

        doc.says("BAD_VALUE if code is out of range;");
        for (int code : new int[] {-1, 256, 257, LEAST, MOST, 256 + '1', '1' - 256}) {
            doc.dueUnchanged(CounterBraid::new, "type(" + code + ")", y -> y.type(code), -3);
            doc.dueUnchanged(Made::counted, "type(" + code + ")", y -> y.type(code), -3);
        }

        doc.says("FULL if the text has 100 bytes.");
        for (int code : new int[] {0, '0', 255}) {
            doc.dueUnchanged(() -> Made.withText("1;".repeat(50)), "type(" + code + ")", y -> y.type(code), -5);
        }
        CounterBraid full = Made.withText("1;".repeat(49) + "1");
        doc.due("type(48), the 100th", full.type('0'), 100);
        doc.due("type(48), the 101st", full.type('0'), -5);
        full.load();
        doc.due("key(1), 10 and not 100", full.key(1), 10);
    }

    private void clearText() {
        doc.from("Promise 33");
        doc.says("Empties the text.");
        CounterBraid x = Made.counted();
        long before = x.digest();
        x.clearText();
        doc.due("textFault()", x.textFault(), 0);
        doc.due("type(49)", x.type('1'), 1);
        doc.due("textFault() of a new text", x.textFault(), -1);
        doc.due("digest()", x.digest(), before);
        doc.due("states in the history", Sentences.statesIn(x), 5);

        doc.says("Returns the length that it had.");
        doc.due("clearText() of an empty text", new CounterBraid().clearText(), 0);
        for (int length = 1; length <= 100; length++) {
            CounterBraid y = Made.withText("x".repeat(length));
            doc.due("clearText() of " + length, y.clearText(), length);
            doc.due("clearText() again", y.clearText(), 0);
        }
        CounterBraid refused = Made.withText("x".repeat(100));
        refused.type('x');
        doc.due("clearText() behind a byte that was refused", refused.clearText(), 100);
    }

    private void textFault() {
        doc.from("Promise 34");
        doc.says("Checks the text.");
        doc.dueUnchanged(Made::counted, "textFault()", x -> x.textFault(), -1);
        doc.dueUnchanged(() -> Made.withText("1;2+0"), "textFault()", x -> x.textFault(), 4);
        CounterBraid again = Made.withText("1;2;3+0");
        doc.due("textFault()", again.textFault(), 6);
        doc.due("textFault() again", again.textFault(), 6);
        doc.due("form(6), nothing is added", again.form(6), 0);

        doc.says("Returns its fault;");
        CounterBraid x = new CounterBraid();
        int[] faults = {0, -1, 2, -1, 4, -1, -1};
        String text = "1+2;3 ";
        for (int length = 0; length <= text.length(); length++) {
            doc.due("textFault() of the first " + length, x.textFault(), faults[length]);
            x.type(length < text.length() ? text.charAt(length) : ';');
        }
        doc.due("textFault() of seven", x.textFault(), 7);
        x.type(';');
        doc.due("textFault() of eight", x.textFault(), 7);
        x.type('1');
        doc.due("textFault() of nine", x.textFault(), 7);

        doc.says("NONE if it has none.");
        doc.due("textFault() of \"0\"", Made.withText("0").textFault(), -1);
        doc.due("textFault() of 100 bytes", Made.withText("1;".repeat(49) + "1+").textFault(), 100);
        doc.due("textFault() of 100 bytes", Made.withText("1;".repeat(48) + "1+01").textFault(), -1);
        // More is allowed where there are flows with these keys; a load takes no room for them.
        CounterBraid y = Made.sixteenFlows();
        Made.typeAll(y, "0;1;2;3;4;5;6;7;8;9;10;11;12;13;14;15");
        doc.due("textFault() of 16 known keys", y.textFault(), -1);
        // A true count that would be too great is no fault of the text.
        doc.due("textFault() that load() calls full", Made.full().textFault(), -1);
    }

    private void load() {
        doc.from("Promise 35");
        doc.says("Adds flows, and lets them count in braid 0, as the items of the text say, in their order.");
        CounterBraid x = Made.threeFlows();
        x.count(1, 0, 9);
        Made.typeAll(x, "42;8+20;7+5;300 + 100;42+9;1+9999");
        CounterBraid y = Made.threeFlows();
        y.count(1, 0, 9);
        y.addFlow(42);
        y.addFlow(1);
        y.count(0, 3, 1);
        y.count(0, 1, 20);
        y.count(0, 0, 5);
        y.count(0, 2, 100);
        y.count(0, 3, 9);
        y.count(0, 4, 9999);
        doc.due("load()", x.load(), 5);
        doc.due("digest()", x.digest(), y.digest());

        doc.says("The text stays.");
        doc.due("textFault()", x.textFault(), -1);
        doc.due("load() again", x.load(), 5);
        doc.due("truth(0, 3)", x.truth(0, 3), 20);
        doc.due("clearText()", x.clearText(), 33);

        doc.says("Recorded, as one call.");
        doc.dueRecorded(() -> Made.withText("1;2+3;4;5;6;7+8;9"), "load() of seven items", z -> z.load());
        doc.dueRecorded(Made::counted, "load()", z -> z.load());
        CounterBraid z = Made.withText("1;2+3;4;5;6;7+8;9");
        z.load();
        doc.due("undo()", z.undo(), 0);
        doc.due("form(6)", z.form(6), 0);
        doc.due("undo() of none", z.undo(), -4);

        doc.says("Returns the number of flows then;");
        doc.due("load() of one", Made.withText("1").load(), 1);
        doc.due("load() of one, twice", Made.withText("1;1").load(), 1);
        doc.due("load() of 16", Made.withText("0;1;2;3;4;5;6;7;8;9;10;11;12;13;14;15").load(), 16);
        doc.due("load() of none of three", Made.counted().load(), 4);
        CounterBraid fifty = Made.withText("1;".repeat(49) + "1");
        doc.due("load() of 50 items", fifty.load(), 1);
        doc.due("truth(0, 0)", fifty.truth(0, 0), 50);
    }

    private void loadErrors() {
        doc.says("BAD_STATE if the text has a fault;");
        for (String text : new String[] {"", " ", "1;", "1+", "1+0", "1000", "x", "1;2;3;x", "1;2+10000", "00001",
            "1;2;3;4;5;6;7;8;9;10;11;12;13;14;15;16;17"}) {
            doc.dueUnchanged(() -> Made.withText(text), "load() of \"" + text + "\"", x -> x.load(), -4);
        }
        CounterBraid noRoom = Made.sixteenFlows();
        Made.typeAll(noRoom, "16");
        doc.due("load() of a 17th flow", noRoom.load(), -4);

        doc.says("FULL if a true count would be above 1000000000 behind all items.");
        doc.dueUnchanged(Made::full, "load()", x -> x.load(), -5);
        // The flow 7 has room for 10000.
        String[] texts = {"7+9999;7", "7;7+9999", "8+9999;7+9999;300+9999;7", "7+5000;1;7+5000"};
        int[] flows = {3, 3, 3, 4};
        for (int i = 0; i < texts.length; i++) {
            CounterBraid x = almostFull(texts[i]);
            doc.due("load() of \"" + texts[i] + "\"", x.load(), flows[i]);
            doc.due("truth(0, 0)", x.truth(0, 0), 1000000000);
            doc.due("load() again", x.load(), -5);
        }
        for (String text : new String[] {"7+9999;7+2", "7+2;7+9999", "7;8+9999;7+9999;7", "7+9999;7;9;7"}) {
            doc.dueUnchanged(() -> almostFull(text), "load() of \"" + text + "\"", x -> x.load(), -5);
        }
        CounterBraid shorter = almostFull("7+9999;7+9999");
        doc.due("load() of a longer text", shorter.load(), -5);
        shorter.clearText();
        Made.typeAll(shorter, "7+9999");
        doc.due("load() of a shorter text behind it", shorter.load(), 3);
        doc.due("truth(0, 0)", shorter.truth(0, 0), 999999999);
        CounterBraid other = almostFull("7+9999;7+9999");
        other.clear(1);
        other.addBraid(0, 1);
        other.clear(0);
        doc.due("load() where the other braid is almost full", other.load(), 3);
        doc.due("truth(0, 0)", other.truth(0, 0), 19998);
    }

    private static CounterBraid almostFull(String text) {
        CounterBraid x = Made.threeFlows();
        Made.fill(x, 998750);
        Made.typeAll(x, text);
        return x;
    }

    private void digest() {
        doc.from("Promise 36");
        doc.says("Returns a hash of the state.");
        doc.dueUnchanged(Made::counted, "digest()", x -> x.digest(), hash(Made.counted()));
        CounterBraid text = Made.counted();
        text.type(';');
        doc.due("digest(), whatever the text", text.digest(), Made.counted().digest());
        text.setRounds(20);
        doc.due("digest(), whatever the history", text.digest(), Made.counted().digest());

        doc.says("It begins with h = 17; for each of the following numbers v, in this order, h becomes 31 * h + v (long "
                + "arithmetic, with overflow):");
        // The form 2, 1, 1, 1, 1, 20; the flow 4 has the place 1 (169 modulo 2), the flow 0 as well (5 modulo 2).
        CounterBraid small = Made.braid(new int[] {2, 1, 1, 1, 1, 20}, new int[] {4, 0}, new int[] {5, 4});
        small.count(1, 1, 1);
        long h = 17;
        for (int v : new int[] {2, 1, 1, 1, 1, 20, 2, 4, 0, 5, 4, 0, 0, 1, 1, 4, 0, 1, 0, 0, 1, 0, 0}) {
            h = 31 * h + v;
        }
        doc.due("digest()", small.digest(), h);
        // Without overflow, and only then cut to 64 bits.
        BigInteger exact = BigInteger.valueOf(17);
        for (int v : new int[] {12, 3, 3, 6, 2, 20, 0}) {
            exact = exact.multiply(BigInteger.valueOf(31)).add(BigInteger.valueOf(v));
        }
        exact = exact.multiply(BigInteger.valueOf(31).pow(2 * (12 + 12 + 6)));
        doc.due("digest() of a new object", new CounterBraid().digest(), exact.longValue());

        doc.says("form() of 0 to 6;");
        Call[] forms = {x -> x.setFirst(13, 3, 3), x -> x.setFirst(12, 4, 3), x -> x.setFirst(12, 3, 4),
            x -> x.setSecond(7, 2), x -> x.setSecond(6, 3), x -> x.setRounds(21)};
        for (int what = 0; what < forms.length; what++) {
            CounterBraid x = new CounterBraid();
            forms[what].on(x);
            doc.due("digest() of another form(" + what + ")", x.digest(), hash(x));
            doc.due("it is another one", x.digest() == new CounterBraid().digest() ? 1 : 0, 0);
        }

        doc.says("the keys of all flows;");
        CounterBraid keys = Made.sixteenFlows();
        doc.due("digest() of 16 flows", keys.digest(), hash(keys));
        CounterBraid two = new CounterBraid();
        two.addFlow(999);
        two.addFlow(0);
        doc.due("digest() of the keys 999 and 0", two.digest(), hash(two));

        doc.says("for each braid the true counts of all flows, then for each counter of the first layer its rest() and "
                + "isMarked(), then the numbers of the second layer.");
        CounterBraid most = Made.full();
        doc.due("digest() of great counts", most.digest(), hash(most));
        CounterBraid widest = Made.braid(new int[] {24, 1, 4, 16, 3, 60}, new int[] {1, 2, 3}, new int[] {77, 1, 9});
        widest.count(1, 1, 1234);
        doc.due("digest() of the most counters", widest.digest(), hash(widest));
        CounterBraid least = Made.braid(new int[] {2, 8, 1, 1, 1, 0}, new int[] {1, 2, 3}, new int[] {77, 1, 9});
        doc.due("digest() of the fewest counters", least.digest(), hash(least));

        doc.says("Returns h.");
        doc.due("digest() of a new object", new CounterBraid().digest(), hash(new CounterBraid()));
    }

    private static long hash(CounterBraid x) {
        long h = 17;
        for (int what = 0; what <= 6; what++) {
            h = 31 * h + x.form(what);
        }
        for (int flow = 0; flow < x.form(6); flow++) {
            h = 31 * h + x.key(flow);
        }
        for (int braid = 0; braid < 2; braid++) {
            for (int flow = 0; flow < x.form(6); flow++) {
                h = 31 * h + x.truth(braid, flow);
            }
            for (int counter = 0; counter < x.form(0); counter++) {
                h = 31 * h + x.rest(braid, counter);
                h = 31 * h + x.isMarked(braid, counter);
            }
            for (int counter = 0; counter < x.form(3); counter++) {
                h = 31 * h + x.above(braid, counter);
            }
        }
        return h;
    }
}
