import java.util.function.Supplier;

/** "History, errors" in the document's description. */
final class HistorySentences {
    private static final String[] RECORDED_NAMES = {"setFirst", "setSecond", "setRounds", "addFlow", "count", "addBraid",
        "clear", "load"};
    private static final Call[] RECORDED = {x -> x.setFirst(5, 2, 2), x -> x.setSecond(3, 1), x -> x.setRounds(7),
        x -> x.addFlow(500), x -> x.count(1, 1, 77), x -> x.addBraid(0, 1), x -> x.clear(0), x -> x.load()};

    private final Sentences doc;

    HistorySentences(Sentences doc) {
        this.doc = doc;
    }

    void all() {
        doc.from("History, errors");
        fiveStates();
        recorded();
        wholeState();
        notRecorded();
        withoutChange();
        oldestIsDropped();
        undo();
        codes();
        firstError();
        noneIsLast();
        errorsChangeNothing();
        constants();
    }

    private void fiveStates() {
        doc.says("A history of at most 5 states is kept.");
        for (int calls = 0; calls <= 12; calls++) {
            CounterBraid x = new CounterBraid();
            for (int call = 0; call < calls; call++) {
                x.setRounds(call);
            }
            for (int left = Math.min(calls, 5) - 1; left >= 0; left--) {
                doc.due("undo() behind " + calls + " recorded calls", x.undo(), left);
            }
            doc.due("undo() of none behind " + calls, x.undo(), -4);
            doc.due("form(5) behind " + calls, x.form(5), calls <= 5 ? 20 : calls - 6);
        }
    }

    private void recorded() {
        doc.says("The methods that are said to be recorded record the whole state (all but the text) before each call "
                + "that returns no error,");
        for (int i = 0; i < RECORDED.length; i++) {
            doc.dueRecorded(HistorySentences::oneFlowLess, RECORDED_NAMES[i], RECORDED[i]);
            doc.dueRecorded(Made::counted, RECORDED_NAMES[i], RECORDED[i]);
            CounterBraid x = Made.counted();
            long before = x.digest();
            RECORDED[i].on(x);
            doc.due(RECORDED_NAMES[i] + " changes the state", x.digest() == before ? 1 : 0, 0);
        }
    }

    /** Two states in the history. */
    private static CounterBraid oneFlowLess() {
        CounterBraid x = Made.withText("3;4+5");
        x.addFlow(8);
        x.addFlow(7);
        return x;
    }

    private void wholeState() {
        CounterBraid x = Made.counted();
        long bound = x.bound(0, 2, true);
        long[] before = state(x);
        x.setFirst(24, 1, 4);
        x.setSecond(16, 3);
        x.addFlow(1);
        Made.typeAll(x, ";9+9");
        x.load();
        x.addBraid(0, 1);
        for (int i = 0; i < 5; i++) {
            x.undo();
        }
        long[] after = state(x);
        for (int i = 0; i < before.length; i++) {
            doc.due("number " + i + " of the state behind undo()", after[i], before[i]);
        }
        doc.due("bound(0, 2, true) behind undo()", x.bound(0, 2, true), bound);
        doc.due("the flow 3 behind undo()", x.key(3), -2);
        doc.due("flowOf(1) behind undo()", x.flowOf(1), -1);
        doc.due("the text behind undo()", x.clearText(), 9);
        CounterBraid y = Made.withText("1");
        y.setRounds(3);
        y.clearText();
        y.undo();
        doc.due("the text that was emptied, behind undo()", y.clearText(), 0);
        y.setRounds(3);
        y.type('2');
        y.undo();
        doc.due("the text that was typed, behind undo()", y.load(), 1);
        doc.due("key(0)", y.key(0), 2);
    }

    /** All that a call may tell of form, flows and counters. */
    private static long[] state(CounterBraid x) {
        long[] state = new long[200];
        int n = 0;
        for (int what = 0; what <= 6; what++) {
            state[n++] = x.form(what);
        }
        for (int flow = 0; flow < 4; flow++) {
            state[n++] = x.key(flow);
            state[n++] = x.places(flow);
            state[n++] = x.truth(0, flow);
            state[n++] = x.truth(1, flow);
        }
        for (int braid = 0; braid < 2; braid++) {
            for (int counter = 0; counter < 24; counter++) {
                state[n++] = x.rest(braid, counter);
                state[n++] = x.isMarked(braid, counter);
            }
            for (int counter = 0; counter < 16; counter++) {
                state[n++] = x.above(braid, counter);
            }
        }
        return state;
    }

    private void notRecorded() {
        Call[] calls = {x -> x.form(0), x -> x.key(0), x -> x.flowOf(7), x -> x.places(0), x -> x.placesAbove(0),
            x -> x.truth(0, 0), x -> x.rest(0, 0), x -> x.isMarked(0, 0), x -> x.above(0, 0), x -> x.overflow(0, 0, true),
            x -> x.bound(0, 0, true), x -> x.boundAfter(0, 0, true, 3), x -> x.certain(0), x -> x.certainOverflows(0),
            x -> x.lastRound(0), x -> x.total(0, 1), x -> x.estimate(0, 0), x -> x.leastPlace(0, 0), x -> x.widest(0),
            x -> x.leastSpace(0), x -> x.bits(), x -> x.bitsForEach(), x -> x.textFault(), x -> x.digest(),
            x -> x.flowOf(998)};
        for (int i = 0; i < calls.length; i++) {
            int call = i;
            doc.dueUnchanged(HistorySentences::oneFlowLess, "call " + i + " that is not recorded", calls[i],
                    calls[call].on(oneFlowLess()));
        }
        Call[] ofText = {x -> x.type('1'), x -> x.clearText(), x -> x.type(-1)};
        for (Call call : ofText) {
            CounterBraid x = oneFlowLess();
            call.on(x);
            doc.due("undo() behind a call for the text", x.undo(), 1);
        }
        CounterBraid x = oneFlowLess();
        x.undo();
        doc.due("undo() behind undo()", x.undo(), 0);
        doc.due("undo() behind both", x.undo(), -4);
    }

    private void withoutChange() {
        doc.says("even if it changes nothing;");
        Call[] calls = {x -> x.setFirst(12, 3, 3), x -> x.setSecond(6, 2), x -> x.setRounds(20), x -> x.addBraid(0, 1),
            x -> x.addBraid(1, 0), x -> x.clear(0), x -> x.clear(1)};
        for (int i = 0; i < calls.length; i++) {
            CounterBraid x = Made.threeFlows();
            long before = x.digest();
            calls[i].on(x);
            doc.due("digest() behind call " + i, x.digest(), before);
            doc.due("undo() behind call " + i, x.undo(), 3);
            doc.due("digest() behind its undo()", x.digest(), before);
            doc.due("undo() of the call before it", x.undo(), 2);
            doc.due("form(6)", x.form(6), 2);
        }
    }

    private void oldestIsDropped() {
        doc.says("when one more is recorded, the oldest one is dropped.");
        for (int i = 0; i < RECORDED.length; i++) {
            CounterBraid x = new CounterBraid();
            Made.typeAll(x, "8+3;9");
            long[] before = new long[6];
            Call[] calls = {y -> y.setRounds(19), y -> y.addFlow(7), y -> y.addFlow(8), y -> y.count(0, 0, 100),
                y -> y.count(1, 1, 200), RECORDED[i]};
            for (int call = 0; call < calls.length; call++) {
                before[call] = x.digest();
                calls[call].on(x);
            }
            for (int left = 4; left >= 0; left--) {
                doc.due("undo() behind a sixth call, " + RECORDED_NAMES[i], x.undo(), left);
                doc.due("digest() with " + left + " left", x.digest(), before[left + 1]);
            }
            doc.due("undo() of none", x.undo(), -4);
            doc.due("form(5), the dropped state's is 20", x.form(5), 19);
        }
        CounterBraid refused = Made.counted();
        refused.count(0, 0, 0);
        refused.addFlow(7);
        doc.due("states behind a sixth call that was refused", Sentences.statesIn(refused), 5);
    }

    private void undo() {
        doc.says("undo() removes and restores the latest one.");
        CounterBraid x = new CounterBraid();
        x.setRounds(1);
        x.setRounds(2);
        x.setRounds(3);
        doc.due("undo()", x.undo(), 2);
        doc.due("form(5)", x.form(5), 2);
        x.setRounds(9);
        doc.due("undo() behind a new call", x.undo(), 2);
        doc.due("form(5)", x.form(5), 2);
        doc.due("undo()", x.undo(), 1);
        doc.due("form(5)", x.form(5), 1);
        doc.due("undo()", x.undo(), 0);
        doc.due("form(5)", x.form(5), 20);
        doc.due("undo() of none", x.undo(), -4);
        doc.due("form(5)", x.form(5), 20);
        x.setRounds(5);
        doc.due("undo() behind an empty history", x.undo(), 0);
        CounterBraid y = new CounterBraid();
        for (int turn = 0; turn < 60; turn++) {
            y.setRounds(turn);
            y.setRounds(60 - turn);
            doc.due("form(5) ahead of undo()", y.form(5), 60 - turn);
            doc.due("undo(), turn " + turn, y.undo(), Math.min(turn + 1, 4));
            doc.due("form(5) behind undo()", y.form(5), turn);
        }
    }

    private void codes() {
        doc.says("NONE (-1) stands for \"there is none\".");
        doc.due("flowOf(3)", new CounterBraid().flowOf(3), -1);
        doc.due("widest(0)", new CounterBraid().widest(0), -1);
        doc.due("bitsForEach()", new CounterBraid().bitsForEach(), -1);
        doc.due("textFault()", Made.counted().textFault(), -1);
        doc.due("leastSpace(0)", Made.woven(4).leastSpace(0), -1);

        doc.says("The error codes are BAD_INDEX (-2): there is no such braid, flow, counter or place;");
        CounterBraid x = Made.counted();
        doc.due("no such braid", x.truth(2, 0), -2);
        doc.due("no such flow", x.truth(0, 3), -2);
        doc.due("no such counter", x.rest(0, 12), -2);
        doc.due("no such counter of the second layer", x.above(0, 6), -2);

        doc.says("BAD_VALUE (-3): another argument is out of its range;");
        doc.due("setRounds(61)", x.setRounds(61), -3);
        doc.due("flowOf(1000)", x.flowOf(1000), -3);
        doc.due("count(0, 0, 0)", x.count(0, 0, 0), -3);

        doc.says("BAD_STATE (-4): the call is not possible, as told;");
        doc.due("addFlow(7)", x.addFlow(7), -4);
        doc.due("undo()", new CounterBraid().undo(), -4);
        doc.due("load()", new CounterBraid().load(), -4);

        doc.says("FULL (-5): there is no room.");
        doc.due("addFlow(500)", Made.full().addFlow(500), -5);
        doc.due("count(0, 0, 1)", Made.full().count(0, 0, 1), -5);
        doc.due("addBraid(0, 1)", Made.full().addBraid(0, 1), -5);
        doc.due("type(48)", Made.withText("1".repeat(100)).type('0'), -5);
        doc.due("load()", Made.full().load(), -5);
    }

    private void firstError() {
        doc.says("If several apply to a call, the first one in this order is returned;");
        // In the full object the flow 0 can't count once more, nor can the braids be added.
        Supplier<CounterBraid> full = Made::full;
        doc.dueUnchanged(full, "count(2, 0, 0)", x -> x.count(2, 0, 0), -2);
        doc.dueUnchanged(full, "count(-1, 16, 1000001)", x -> x.count(-1, 16, 1000001), -2);
        doc.dueUnchanged(full, "count(0, 16, 0)", x -> x.count(0, 16, 0), -2);
        doc.dueUnchanged(full, "count(0, -1, -1)", x -> x.count(0, -1, -1), -2);
        doc.dueUnchanged(full, "count(0, 0, 1000001)", x -> x.count(0, 0, 1000001), -3);
        doc.dueUnchanged(full, "addBraid(2, 2)", x -> x.addBraid(2, 2), -2);
        doc.dueUnchanged(full, "addBraid(-1, -1)", x -> x.addBraid(-1, -1), -2);
        doc.dueUnchanged(full, "addBraid(0, 2)", x -> x.addBraid(0, 2), -2);
        doc.dueUnchanged(full, "addBraid(0, 0)", x -> x.addBraid(0, 0), -3);
        doc.dueUnchanged(full, "addFlow(1000)", x -> x.addFlow(1000), -3);
        doc.dueUnchanged(full, "addFlow(-1)", x -> x.addFlow(-1), -3);
        doc.dueUnchanged(full, "addFlow(15)", x -> x.addFlow(15), -4);
        doc.dueUnchanged(full, "boundAfter(2, 0, true, 61)", x -> x.boundAfter(2, 0, true, 61), -2);
        doc.dueUnchanged(full, "boundAfter(0, 16, true, -1)", x -> x.boundAfter(0, 16, true, -1), -2);
        doc.dueUnchanged(full, "total(2, 4)", x -> x.total(2, 4), -2);
        doc.dueUnchanged(full, "total(-1, -1)", x -> x.total(-1, -1), -2);
        doc.dueUnchanged(() -> fullWithText("0;16"), "load() of a 17th flow", x -> x.load(), -4);
        doc.dueUnchanged(() -> fullWithText("0+9999;"), "load() of a text that ends too early", x -> x.load(), -4);
        doc.dueUnchanged(() -> Made.withText("1".repeat(100)), "type(256)", x -> x.type(256), -3);
        doc.dueUnchanged(() -> Made.withText("1".repeat(100)), "type(-1)", x -> x.type(-1), -3);
    }

    private static CounterBraid fullWithText(String text) {
        CounterBraid x = Made.full();
        x.clearText();
        Made.typeAll(x, text);
        return x;
    }

    private void noneIsLast() {
        doc.says("NONE is returned only if no error applies.");
        Supplier<CounterBraid> made = CounterBraid::new;
        doc.dueUnchanged(made, "flowOf(1000)", x -> x.flowOf(1000), -3);
        doc.dueUnchanged(made, "flowOf(-1)", x -> x.flowOf(-1), -3);
        doc.dueUnchanged(made, "widest(2)", x -> x.widest(2), -2);
        doc.dueUnchanged(made, "widest(-1)", x -> x.widest(-1), -2);
        doc.dueUnchanged(() -> Made.woven(4), "leastSpace(2)", x -> x.leastSpace(2), -2);
        doc.dueUnchanged(() -> Made.woven(4), "leastSpace(-1)", x -> x.leastSpace(-1), -2);
    }

    private void errorsChangeNothing() {
        doc.says("A call that returns an error changes nothing.");
        Supplier<CounterBraid> counted = Made::counted;
        doc.dueUnchanged(counted, "setFirst(1, 3, 3)", x -> x.setFirst(1, 3, 3), -3);
        doc.dueUnchanged(counted, "setFirst(5, 9, 3)", x -> x.setFirst(5, 9, 3), -3);
        doc.dueUnchanged(counted, "setFirst(5, 2, 5)", x -> x.setFirst(5, 2, 5), -3);
        doc.dueUnchanged(counted, "setSecond(17, 1)", x -> x.setSecond(17, 1), -3);
        doc.dueUnchanged(counted, "setSecond(5, 4)", x -> x.setSecond(5, 4), -3);
        doc.dueUnchanged(counted, "setRounds(61)", x -> x.setRounds(61), -3);
        doc.dueUnchanged(counted, "addFlow(7)", x -> x.addFlow(7), -4);
        doc.dueUnchanged(counted, "clear(2)", x -> x.clear(2), -2);
        doc.dueUnchanged(counted, "type(256)", x -> x.type(256), -3);
        doc.dueUnchanged(counted, "leastSpace(2)", x -> x.leastSpace(2), -2);
        doc.dueUnchanged(Made::full, "addFlow(500)", x -> x.addFlow(500), -5);
        doc.dueUnchanged(Made::full, "count(0, 0, 1)", x -> x.count(0, 0, 1), -5);
        doc.dueUnchanged(Made::full, "addBraid(1, 0)", x -> x.addBraid(1, 0), -5);
        doc.dueUnchanged(Made::full, "load()", x -> x.load(), -5);
        doc.dueUnchanged(CounterBraid::new, "undo()", x -> x.undo(), -4);
        doc.dueUnchanged(() -> Made.withText("1;2;3+0"), "load()", x -> x.load(), -4);
        doc.dueUnchanged(() -> fullWithText("1+5;2+6;0+1"), "load() of which some would fit", x -> x.load(), -5);
    }

    private void constants() {
        doc.says("The constants: NONE = -1, BAD_INDEX = -2, BAD_VALUE = -3, BAD_STATE = -4, FULL = -5: "
                + "NONE: there is none.");
        doc.due("NONE", CounterBraid.NONE, -1);
        doc.due("no flow", new CounterBraid().flowOf(0), CounterBraid.NONE);

        doc.says("The others are error codes.");
        doc.due("BAD_INDEX", CounterBraid.BAD_INDEX, -2);
        doc.due("BAD_VALUE", CounterBraid.BAD_VALUE, -3);
        doc.due("BAD_STATE", CounterBraid.BAD_STATE, -4);
        doc.due("FULL", CounterBraid.FULL, -5);

        doc.says("The constructor and the methods follow, a promise each: the signature, then what it does.");
        doc.due("methods of the class that others may call", publicMethods(), 35);
    }

    private static int publicMethods() {
        int methods = 0;
        for (java.lang.reflect.Method method : CounterBraid.class.getDeclaredMethods()) {
            methods += java.lang.reflect.Modifier.isPublic(method.getModifiers()) ? 1 : 0;
        }
        return methods;
    }
}
