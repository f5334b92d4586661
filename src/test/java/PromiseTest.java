import java.util.HashSet;
import java.util.Set;

/** For each promise of the document: ordinary inputs, the edges that it names, and wrong inputs. */
public final class PromiseTest {
    private static final int NONE = -1, BAD_INDEX = -2, BAD_VALUE = -3, BAD_STATE = -4, FULL = -5;
    private static final int[] WRONG_BRAIDS = {-1, 2, Integer.MIN_VALUE, Integer.MAX_VALUE};

    private final Check check = new Check();
    private String promise;

    public static void main(String[] args) {
        PromiseTest test = new PromiseTest();
        test.formAndFlows();
        test.counting();
        test.decoding();
        test.spaceAndHistory();
        test.text();
        test.check.end("PromiseTest");
    }

    private void formAndFlows() {
        promise1NewObject();
        promise2SetFirst();
        promise3SetSecond();
        promise4SetRounds();
        promise5Form();
        promise6AddFlow();
        promise7Key();
        promise8FlowOf();
        promise9Places();
        promise10PlacesAbove();
    }

    private void counting() {
        promise11Count();
        promise11CountFull();
        promise12AddBraid();
        promise12AddBraidFull();
        promise13Clear();
        promise14Truth();
        promise15Rest();
        promise16IsMarked();
        promise17Above();
    }

    private void decoding() {
        promise18Overflow();
        promise19Bound();
        promise20BoundAfter();
        promise21Certain();
        promise22CertainOverflows();
        promise23LastRound();
        promise24Total();
        promise25Estimate();
        promise26LeastPlace();
        promise27Widest();
        promise28LeastSpace();
        promise28LeastSpaceByParting();
    }

    private void spaceAndHistory() {
        promise29Bits();
        promise30BitsForEach();
        promise31Undo();
        promise31UndoOfEachRecordedCall();
        promise31WhatIsNotRecorded();
    }

    private void text() {
        promise32Type();
        promise33ClearText();
        promise34TextFault();
        promise34SeventeenthFlow();
        promise35Load();
        promise35LoadFull();
        promise36Digest();
    }

    private void due(String call, long got, long want) {
        check.due(promise + ": " + call, got, want);
    }

    private void promise1NewObject() {
        promise = "promise 1";
        CounterBraid x = new CounterBraid();
        int[] form = {12, 3, 3, 6, 2, 20, 0};
        for (int what = 0; what < form.length; what++) {
            due("form(" + what + ")", x.form(what), form[what]);
        }
        for (int braid = 0; braid < 2; braid++) {
            due("sum of truths", x.total(braid, 0), 0);
            due("sum of the numbers above", x.total(braid, 3), 0);
            due("rest", x.rest(braid, 11), 0);
            due("isMarked", x.isMarked(braid, 11), 0);
            due("above", x.above(braid, 5), 0);
        }
        due("undo()", x.undo(), BAD_STATE);
        due("clearText()", x.clearText(), 0);
    }

    private void promise2SetFirst() {
        promise = "promise 2";
        CounterBraid x = Made.threeFlows();
        x.count(0, 0, 100);
        x.count(1, 1, 100);
        due("setFirst(5, 2, 4)", x.setFirst(5, 2, 4), 12);
        due("form(0)", x.form(0), 5);
        due("form(1)", x.form(1), 2);
        due("form(2)", x.form(2), 4);
        due("flows stay", x.form(6), 3);
        due("keys stay", x.key(2), 300);
        dueEmptyBraids(x);
        due("setFirst(24, 8, 1)", x.setFirst(24, 8, 1), 5);
        due("setFirst(2, 1, 4)", x.setFirst(2, 1, 4), 24);
        x.count(0, 0, 1);
        int[][] wrong = {{1, 1, 1}, {25, 1, 1}, {2, 0, 1}, {2, 9, 1}, {2, 1, 0}, {2, 1, 5}, {-5, 3, 3},
            {Integer.MAX_VALUE, 3, 3}, {3, Integer.MIN_VALUE, 3}, {3, 3, Integer.MAX_VALUE}};
        long before = x.digest();
        for (int[] a : wrong) {
            due("setFirst(" + a[0] + ", " + a[1] + ", " + a[2] + ")", x.setFirst(a[0], a[1], a[2]), BAD_VALUE);
        }
        due("digest() behind errors", x.digest(), before);
        due("setFirst with the same form", x.setFirst(2, 1, 4), 2);
        dueEmptyBraids(x);
    }

    private void dueEmptyBraids(CounterBraid x) {
        for (int braid = 0; braid < 2; braid++) {
            due("sum of truths", x.total(braid, 0), 0);
            due("sum of the numbers above", x.total(braid, 3), 0);
            for (int counter = 0; counter < x.form(0); counter++) {
                due("rest", x.rest(braid, counter), 0);
                due("isMarked", x.isMarked(braid, counter), 0);
            }
        }
    }

    private void promise3SetSecond() {
        promise = "promise 3";
        CounterBraid x = Made.threeFlows();
        x.count(0, 0, 100);
        x.count(1, 1, 100);
        due("setSecond(16, 3)", x.setSecond(16, 3), 6);
        due("form(3)", x.form(3), 16);
        due("form(4)", x.form(4), 3);
        due("the first layer's form stays", x.form(0), 12);
        due("flows stay", x.form(6), 3);
        dueEmptyBraids(x);
        due("setSecond(1, 1)", x.setSecond(1, 1), 16);
        x.count(0, 0, 1);
        int[][] wrong = {{0, 1}, {17, 1}, {1, 0}, {1, 4}, {-1, 2}, {Integer.MAX_VALUE, 2}, {2, Integer.MIN_VALUE}};
        long before = x.digest();
        for (int[] a : wrong) {
            due("setSecond(" + a[0] + ", " + a[1] + ")", x.setSecond(a[0], a[1]), BAD_VALUE);
        }
        due("digest() behind errors", x.digest(), before);
        due("setSecond with the same form", x.setSecond(1, 1), 1);
        dueEmptyBraids(x);
    }

    private void promise4SetRounds() {
        promise = "promise 4";
        CounterBraid x = Made.threeFlows();
        x.count(0, 0, 100);
        due("setRounds(60)", x.setRounds(60), 20);
        due("setRounds(0)", x.setRounds(0), 60);
        due("form(5)", x.form(5), 0);
        due("setRounds(-1)", x.setRounds(-1), BAD_VALUE);
        due("setRounds(61)", x.setRounds(61), BAD_VALUE);
        due("form(5)", x.form(5), 0);
        due("the true counts stay", x.truth(0, 0), 100);
        due("the rests stay", x.rest(0, 0), 4);
    }

    private void promise5Form() {
        promise = "promise 5";
        CounterBraid x = new CounterBraid();
        x.setFirst(23, 7, 4);
        x.setSecond(15, 3);
        x.setRounds(59);
        x.addFlow(1);
        int[] form = {23, 7, 4, 15, 3, 59, 1};
        for (int what = 0; what < form.length; what++) {
            due("form(" + what + ")", x.form(what), form[what]);
        }
        due("form(-1)", x.form(-1), BAD_VALUE);
        due("form(7)", x.form(7), BAD_VALUE);
        due("form(least)", x.form(Integer.MIN_VALUE), BAD_VALUE);
    }

    private void promise6AddFlow() {
        promise = "promise 6";
        CounterBraid x = new CounterBraid();
        due("addFlow(-1)", x.addFlow(-1), BAD_VALUE);
        due("addFlow(1000)", x.addFlow(1000), BAD_VALUE);
        due("addFlow(0)", x.addFlow(0), 0);
        due("addFlow(999)", x.addFlow(999), 1);
        due("addFlow(0)", x.addFlow(0), BAD_STATE);
        for (int key = 1; key < 15; key++) {
            due("addFlow(" + key + ")", x.addFlow(key), key + 1);
        }
        due("a 17th flow", x.addFlow(500), FULL);
        due("a known key of 16", x.addFlow(14), BAD_STATE);
        due("a wrong key with 16", x.addFlow(1000), BAD_VALUE);
        due("form(6)", x.form(6), 16);
        due("a new flow's true count", x.truth(1, 15), 0);
    }

    private void promise7Key() {
        promise = "promise 7";
        CounterBraid x = Made.threeFlows();
        due("key(0)", x.key(0), 7);
        due("key(2)", x.key(2), 300);
        due("key(3)", x.key(3), BAD_INDEX);
        due("key(-1)", x.key(-1), BAD_INDEX);
        due("key(16)", x.key(16), BAD_INDEX);
        due("key of none", new CounterBraid().key(0), BAD_INDEX);
    }

    private void promise8FlowOf() {
        promise = "promise 8";
        CounterBraid x = Made.threeFlows();
        due("flowOf(7)", x.flowOf(7), 0);
        due("flowOf(300)", x.flowOf(300), 2);
        due("flowOf(0)", x.flowOf(0), NONE);
        due("flowOf(999)", x.flowOf(999), NONE);
        due("flowOf(1000)", x.flowOf(1000), BAD_VALUE);
        due("flowOf(-1)", x.flowOf(-1), BAD_VALUE);
    }

    private void promise9Places() {
        promise = "promise 9";
        CounterBraid x = Made.threeFlows();
        due("places(0), two functions in one place", x.places(0), 1 + 16);
        due("places(2)", x.places(2), 2 + 32 + 256);
        due("places(3)", x.places(3), BAD_INDEX);
        due("places(-1)", x.places(-1), BAD_INDEX);
        // 999 * 41, 73, 97, 131 + 5, 17, 29, 53 modulo 1009: 604, 296, 68, 761.
        x.addFlow(999);
        x.setFirst(24, 1, 4);
        due("places(3) of 24", x.places(3), (1 << 4) + (1 << 8) + (1 << 20) + (1 << 17));
        x.setFirst(24, 1, 1);
        due("places(3) with one function", x.places(3), 1 << 4);
        x.setFirst(2, 1, 4);
        due("places(3) of 2", x.places(3), 1 + 2);
    }

    private void promise10PlacesAbove() {
        promise = "promise 10";
        CounterBraid x = new CounterBraid();
        due("placesAbove(0)", x.placesAbove(0), 8 + 32);
        due("placesAbove(4)", x.placesAbove(4), 2 + 4);
        due("placesAbove(11), two functions in one place", x.placesAbove(11), 1);
        due("placesAbove(12)", x.placesAbove(12), BAD_INDEX);
        due("placesAbove(-1)", x.placesAbove(-1), BAD_INDEX);
        x.setFirst(24, 1, 1);
        x.setSecond(16, 3);
        // 23 * 19, 37, 61 + 3, 11, 23 modulo 103: 28, 38, 87.
        due("placesAbove(23)", x.placesAbove(23), (1 << 12) + (1 << 6) + (1 << 7));
        // 22, 48, 84.
        due("placesAbove(1)", x.placesAbove(1), (1 << 6) + (1 << 0) + (1 << 4));
        due("placesAbove(24)", x.placesAbove(24), BAD_INDEX);
        x.setSecond(1, 3);
        due("placesAbove(23) of one", x.placesAbove(23), 1);
    }

    private void promise11Count() {
        promise = "promise 11";
        CounterBraid x = Made.threeFlows();
        due("count(0, 0, 7)", x.count(0, 0, 7), 7);
        due("isMarked(0, 0) below 2^D", x.isMarked(0, 0), 0);
        due("count(0, 0, 1)", x.count(0, 0, 1), 8);
        for (int counter : new int[] {0, 4}) {
            due("rest(0, " + counter + ")", x.rest(0, counter), 0);
            due("isMarked(0, " + counter + ")", x.isMarked(0, counter), 1);
        }
        // The places above are {3, 5} for the counter 0 and {1, 2} for the counter 4.
        long[] above = {0, 1, 1, 1, 0, 1};
        for (int counter = 0; counter < above.length; counter++) {
            due("above(0, " + counter + ")", x.above(0, counter), above[counter]);
        }
        due("count(0, 0, 1000000)", x.count(0, 0, 1000000), 1000008);
        due("above(0, 5)", x.above(0, 5), 125001);
        due("the other braid", x.total(1, 0), 0);
        long before = x.digest();
        due("count(0, 0, 0)", x.count(0, 0, 0), BAD_VALUE);
        due("count(0, 0, 1000001)", x.count(0, 0, 1000001), BAD_VALUE);
        due("count(0, 0, least)", x.count(0, 0, Integer.MIN_VALUE), BAD_VALUE);
        due("count(0, 3, 0)", x.count(0, 3, 0), BAD_INDEX);
        due("count(0, -1, 1)", x.count(0, -1, 1), BAD_INDEX);
        for (int braid : WRONG_BRAIDS) {
            due("count(" + braid + ", 0, 0)", x.count(braid, 0, 0), BAD_INDEX);
        }
        due("digest() behind errors", x.digest(), before);
    }

    private void promise11CountFull() {
        promise = "promise 11, full";
        CounterBraid x = Made.threeFlows();
        Made.fill(x, 1000000);
        due("truth(0, 0)", x.truth(0, 0), 1000000000);
        due("truth(1, 0)", x.truth(1, 0), 500000000);
        long before = x.digest();
        due("count(0, 0, 1)", x.count(0, 0, 1), FULL);
        due("count(0, 0, 1000001)", x.count(0, 0, 1000001), BAD_VALUE);
        due("digest() behind errors", x.digest(), before);
        due("count(0, 1, 1)", x.count(0, 1, 1), 1);
        due("bound(0, 0, true)", x.bound(0, 0, true), 1000000000);
        CounterBraid y = Made.threeFlows();
        Made.fill(y, 998750);
        due("count(0, 0, 10001)", y.count(0, 0, 10001), FULL);
        due("count(0, 0, 10000)", y.count(0, 0, 10000), 1000000000);
    }

    private void promise12AddBraid() {
        promise = "promise 12";
        CounterBraid x = Made.threeFlows();
        x.count(0, 0, 5);
        x.count(1, 0, 5);
        x.count(1, 2, 17);
        // The flow 0 overflows by the rests; of the flow 2, braid 1 brings its marks and the rests 1.
        due("addBraid(1, 0)", x.addBraid(1, 0), 5);
        due("rest(0, 0)", x.rest(0, 0), 2);
        due("rest(0, 1)", x.rest(0, 1), 1);
        due("isMarked(0, 4)", x.isMarked(0, 4), 1);
        due("isMarked(0, 8)", x.isMarked(0, 8), 1);
        due("isMarked(0, 9)", x.isMarked(0, 9), 0);
        due("truth(0, 0)", x.truth(0, 0), 10);
        due("truth(0, 2)", x.truth(0, 2), 17);
        CounterBraid y = Made.threeFlows();
        y.count(0, 0, 10);
        y.count(0, 2, 17);
        for (int counter = 0; counter < 6; counter++) {
            due("above(0, " + counter + ")", x.above(0, counter), y.above(0, counter));
        }
        due("the braid that was added stays", x.truth(1, 0), 5);
        due("and its rests", x.rest(1, 0), 5);
        due("and its marks", x.isMarked(1, 0), 0);
        due("addBraid(1, 0) again", x.addBraid(1, 0), 0);
        long before = x.digest();
        due("addBraid(0, 0)", x.addBraid(0, 0), BAD_VALUE);
        due("addBraid(1, 1)", x.addBraid(1, 1), BAD_VALUE);
        for (int braid : WRONG_BRAIDS) {
            due("addBraid(" + braid + ", 0)", x.addBraid(braid, 0), BAD_INDEX);
            due("addBraid(0, " + braid + ")", x.addBraid(0, braid), BAD_INDEX);
            due("addBraid of a wrong one to itself", x.addBraid(braid, braid), BAD_INDEX);
        }
        due("digest() behind errors", x.digest(), before);
    }

    private void promise12AddBraidFull() {
        promise = "promise 12, full";
        CounterBraid x = Made.threeFlows();
        Made.fill(x, 1000000);
        long before = x.digest();
        due("addBraid(1, 0)", x.addBraid(1, 0), FULL);
        due("addBraid(0, 0)", x.addBraid(0, 0), BAD_VALUE);
        due("digest() behind errors", x.digest(), before);
        x.undo();
        due("addBraid(1, 0) to 1000 million", x.addBraid(1, 0), 0);
        due("truth(0, 0)", x.truth(0, 0), 1000000000);
    }

    private void promise13Clear() {
        promise = "promise 13";
        CounterBraid x = Made.threeFlows();
        x.count(0, 0, 10);
        x.count(0, 2, 20);
        x.count(1, 1, 40);
        due("clear(0)", x.clear(0), 30);
        due("sum of truths", x.total(0, 0), 0);
        due("sum of the numbers above", x.total(0, 3), 0);
        due("rest(0, 0)", x.rest(0, 0), 0);
        due("isMarked(0, 0)", x.isMarked(0, 0), 0);
        due("the other braid", x.truth(1, 1), 40);
        due("its marks", x.isMarked(1, 9), 1);
        due("flows stay", x.form(6), 3);
        due("clear(0) again", x.clear(0), 0);
        for (int braid : WRONG_BRAIDS) {
            due("clear(" + braid + ")", x.clear(braid), BAD_INDEX);
        }
        due("clear(1)", x.clear(1), 40);
    }

    private void promise14Truth() {
        promise = "promise 14";
        CounterBraid x = Made.threeFlows();
        x.count(0, 1, 3);
        x.count(1, 1, 4);
        x.count(1, 1, 5);
        due("truth(0, 1)", x.truth(0, 1), 3);
        due("truth(1, 1)", x.truth(1, 1), 9);
        due("truth(1, 2)", x.truth(1, 2), 0);
        due("truth(0, 3)", x.truth(0, 3), BAD_INDEX);
        due("truth(0, -1)", x.truth(0, -1), BAD_INDEX);
        for (int braid : WRONG_BRAIDS) {
            due("truth(" + braid + ", 0)", x.truth(braid, 0), BAD_INDEX);
        }
    }

    private void promise15Rest() {
        promise = "promise 15";
        CounterBraid x = Made.threeFlows();
        x.count(1, 1, 7);
        x.count(1, 2, 6);
        due("rest(1, 1)", x.rest(1, 1), 5);
        due("rest(1, 9)", x.rest(1, 9), 7);
        due("rest(1, 8)", x.rest(1, 8), 6);
        due("rest(0, 9)", x.rest(0, 9), 0);
        due("rest(1, 12)", x.rest(1, 12), BAD_INDEX);
        due("rest(1, -1)", x.rest(1, -1), BAD_INDEX);
        for (int braid : WRONG_BRAIDS) {
            due("rest(" + braid + ", 0)", x.rest(braid, 0), BAD_INDEX);
        }
        x.setFirst(24, 8, 1);
        x.count(0, 0, 511);
        due("rest(0, 4) of eight bits", x.rest(0, 4), 255);
        due("rest(0, 23)", x.rest(0, 23), 0);
        due("rest(0, 24)", x.rest(0, 24), BAD_INDEX);
    }

    private void promise16IsMarked() {
        promise = "promise 16";
        CounterBraid x = Made.threeFlows();
        x.count(1, 1, 7);
        x.count(1, 2, 1);
        due("isMarked(1, 1)", x.isMarked(1, 1), 1);
        due("isMarked(1, 9)", x.isMarked(1, 9), 0);
        due("isMarked(0, 1)", x.isMarked(0, 1), 0);
        x.count(1, 1, 8);
        due("isMarked(1, 9)", x.isMarked(1, 9), 1);
        x.count(1, 1, 1);
        due("a mark stays", x.isMarked(1, 1), 1);
        due("isMarked(1, 12)", x.isMarked(1, 12), BAD_INDEX);
        due("isMarked(1, -1)", x.isMarked(1, -1), BAD_INDEX);
        for (int braid : WRONG_BRAIDS) {
            due("isMarked(" + braid + ", 0)", x.isMarked(braid, 0), BAD_INDEX);
        }
    }

    private void promise17Above() {
        promise = "promise 17";
        CounterBraid x = Made.threeFlows();
        x.count(1, 0, 80);
        due("above(1, 0)", x.above(1, 0), 0);
        due("above(1, 3)", x.above(1, 3), 10);
        due("above(0, 3)", x.above(0, 3), 0);
        due("above(1, 5)", x.above(1, 5), 10);
        due("above(1, 6)", x.above(1, 6), BAD_INDEX);
        due("above(1, -1)", x.above(1, -1), BAD_INDEX);
        for (int braid : WRONG_BRAIDS) {
            due("above(" + braid + ", 0)", x.above(braid, 0), BAD_INDEX);
        }
    }

    private void promise18Overflow() {
        promise = "promise 18";
        int[] rounds = {0, 1, 2, 3, 4, 20};
        long[][] lower = {{1, 1, 1, 1, 0, 1, 0}, {1, 24, 14, 22, 0, 1, 0}, {1, 24, 14, 22, 0, 1, 0},
            {22, 24, 14, 22, 0, 1, 0}, {22, 24, 14, 22, 0, 1, 0}, {22, 24, 14, 22, 0, 1, 0}};
        long[][] upper = {{36, 24, 36, 22, 0, 47, 0}, {35, 24, 35, 22, 0, 45, 0}, {22, 24, 14, 22, 0, 22, 0},
            {22, 24, 14, 22, 0, 22, 0}, {22, 24, 14, 22, 0, 1, 0}, {22, 24, 14, 22, 0, 1, 0}};
        for (int i = 0; i < rounds.length; i++) {
            CounterBraid x = Made.woven(rounds[i]);
            for (int c = 0; c < 7; c++) {
                due(rounds[i] + " rounds, overflow(0, " + c + ", false)", x.overflow(0, c, false), lower[i][c]);
                due(rounds[i] + " rounds, overflow(0, " + c + ", true)", x.overflow(0, c, true), upper[i][c]);
            }
        }
        CounterBraid x = Made.woven(20);
        due("overflow(1, 0, true)", x.overflow(1, 0, true), 0);
        due("overflow(0, 7, true)", x.overflow(0, 7, true), BAD_INDEX);
        due("overflow(0, -1, false)", x.overflow(0, -1, false), BAD_INDEX);
        for (int braid : WRONG_BRAIDS) {
            due("overflow(" + braid + ", 0, true)", x.overflow(braid, 0, true), BAD_INDEX);
        }
    }

    private void promise19Bound() {
        promise = "promise 19";
        int[] rounds = {0, 2, 4, 5};
        long[][] lower = {{0, 0, 0, 0, 0}, {5, 2, 16, 0, 0}, {21, 2, 18, 26, 26}, {23, 2, 18, 26, 26}};
        long[][] upper = {{49, 72, 44, 44, 49}, {49, 28, 44, 26, 28}, {23, 2, 18, 26, 26}, {23, 2, 18, 26, 26}};
        for (int i = 0; i < rounds.length; i++) {
            CounterBraid x = Made.woven(rounds[i]);
            for (int f = 0; f < 5; f++) {
                due(rounds[i] + " rounds, bound(0, " + f + ", false)", x.bound(0, f, false), lower[i][f]);
                due(rounds[i] + " rounds, bound(0, " + f + ", true)", x.bound(0, f, true), upper[i][f]);
            }
        }
        CounterBraid x = Made.woven(20);
        due("bound(1, 0, true)", x.bound(1, 0, true), 0);
        due("bound(0, 5, true)", x.bound(0, 5, true), BAD_INDEX);
        due("bound(0, -1, false)", x.bound(0, -1, false), BAD_INDEX);
        for (int braid : WRONG_BRAIDS) {
            due("bound(" + braid + ", 0, true)", x.bound(braid, 0, true), BAD_INDEX);
        }
    }

    private void promise20BoundAfter() {
        promise = "promise 20";
        CounterBraid x = Made.woven(20);
        long[] lower = {0, 5, 5, 21, 21, 23, 23};
        long[] upper = {49, 49, 49, 49, 23, 23, 23};
        for (int rounds = 0; rounds < lower.length; rounds++) {
            due("boundAfter(0, 0, false, " + rounds + ")", x.boundAfter(0, 0, false, rounds), lower[rounds]);
            due("boundAfter(0, 0, true, " + rounds + ")", x.boundAfter(0, 0, true, rounds), upper[rounds]);
        }
        due("boundAfter(0, 0, true, 60)", x.boundAfter(0, 0, true, 60), 23);
        due("boundAfter(0, 0, true, 61)", x.boundAfter(0, 0, true, 61), BAD_VALUE);
        due("boundAfter(0, 0, true, -1)", x.boundAfter(0, 0, true, -1), BAD_VALUE);
        due("boundAfter(0, 5, true, -1)", x.boundAfter(0, 5, true, -1), BAD_INDEX);
        due("boundAfter(0, -1, true, 0)", x.boundAfter(0, -1, true, 0), BAD_INDEX);
        for (int braid : WRONG_BRAIDS) {
            due("boundAfter(" + braid + ", 0, true, 61)", x.boundAfter(braid, 0, true, 61), BAD_INDEX);
        }
        // More rounds of the second decoding than R are done as they are asked for; the first one is done for R.
        CounterBraid y = Made.woven(2);
        due("R is 2, boundAfter(0, 0, false, 3)", y.boundAfter(0, 0, false, 3), 21);
        due("R is 2, boundAfter(0, 0, false, 60)", y.boundAfter(0, 0, false, 60), 23);
        due("R is 2, boundAfter(0, 0, true, 60)", y.boundAfter(0, 0, true, 60), 49);
    }

    private void promise21Certain() {
        promise = "promise 21";
        due("no flows", new CounterBraid().certain(0), 0);
        due("3 rounds", Made.woven(3).certain(0), 0);
        due("4 rounds", Made.woven(4).certain(0), 2 + 4 + 8 + 16);
        due("5 rounds", Made.woven(5).certain(0), 31);
        due("an empty braid without rounds", Made.woven(0).certain(1), 31);
        for (int braid : WRONG_BRAIDS) {
            due("certain(" + braid + ")", Made.woven(5).certain(braid), BAD_INDEX);
        }
    }

    private void promise22CertainOverflows() {
        promise = "promise 22";
        due("no rounds", Made.woven(0).certainOverflows(0), 16 + 64);
        due("one round", Made.woven(1).certainOverflows(0), 2 + 8 + 16 + 64);
        due("2 rounds", Made.woven(2).certainOverflows(0), 2 + 4 + 8 + 16 + 64);
        due("3 rounds", Made.woven(3).certainOverflows(0), 127 - 32);
        due("4 rounds", Made.woven(4).certainOverflows(0), 127);
        due("an empty braid", Made.woven(0).certainOverflows(1), 127);
        CounterBraid x = new CounterBraid();
        x.setFirst(24, 1, 1);
        due("24 counters", x.certainOverflows(0), (1 << 24) - 1);
        for (int braid : WRONG_BRAIDS) {
            due("certainOverflows(" + braid + ")", x.certainOverflows(braid), BAD_INDEX);
        }
    }

    private void promise23LastRound() {
        promise = "promise 23";
        int[] rounds = {0, 1, 2, 3, 4, 5, 6, 60};
        int[] last = {0, 1, 2, 3, 4, 5, 5, 5};
        for (int i = 0; i < rounds.length; i++) {
            due(rounds[i] + " rounds", Made.woven(rounds[i]).lastRound(0), last[i]);
        }
        due("an empty braid", Made.woven(20).lastRound(1), 0);
        due("no flows", new CounterBraid().lastRound(0), 0);
        for (int braid : WRONG_BRAIDS) {
            due("lastRound(" + braid + ")", Made.woven(20).lastRound(braid), BAD_INDEX);
        }
    }

    private void promise24Total() {
        promise = "promise 24";
        CounterBraid x = Made.woven(2);
        long[] totals = {95, 23, 175, 165};
        for (int what = 0; what < totals.length; what++) {
            due("total(0, " + what + ")", x.total(0, what), totals[what]);
            due("total(1, " + what + ")", x.total(1, what), 0);
        }
        x.addFlow(4);
        due("a flow more", x.total(0, 2) > 175 ? 1 : 0, 1);
        x.undo();
        x.clear(0);
        due("a flow less, and nothing counted", x.total(0, 2), 0);
        due("total(0, -1)", x.total(0, -1), BAD_VALUE);
        due("total(0, 4)", x.total(0, 4), BAD_VALUE);
        for (int braid : WRONG_BRAIDS) {
            due("total(" + braid + ", 4)", x.total(braid, 4), BAD_INDEX);
        }
    }

    private void promise25Estimate() {
        promise = "promise 25";
        CounterBraid x = Made.woven(2);
        long[] middles = {27, 15, 30, 13, 14};
        for (int flow = 0; flow < middles.length; flow++) {
            due("estimate(0, " + flow + ")", x.estimate(0, flow), middles[flow]);
        }
        due("(0 + 49) / 2, rounded down", Made.woven(0).estimate(0, 0), 24);
        due("estimate(1, 0)", x.estimate(1, 0), 0);
        due("estimate(0, 5)", x.estimate(0, 5), BAD_INDEX);
        due("estimate(0, -1)", x.estimate(0, -1), BAD_INDEX);
        for (int braid : WRONG_BRAIDS) {
            due("estimate(" + braid + ", 0)", x.estimate(braid, 0), BAD_INDEX);
        }
    }

    private void promise26LeastPlace() {
        promise = "promise 26";
        CounterBraid x = Made.woven(20);
        long[] least = {49, 2, 44, 28, 44};
        for (int flow = 0; flow < least.length; flow++) {
            due("leastPlace(0, " + flow + ")", x.leastPlace(0, flow), least[flow]);
        }
        due("no rounds of the first decoding", Made.woven(0).leastPlace(0, 1), 72);
        due("leastPlace(1, 0)", x.leastPlace(1, 0), 0);
        due("leastPlace(0, 5)", x.leastPlace(0, 5), BAD_INDEX);
        due("leastPlace(0, -1)", x.leastPlace(0, -1), BAD_INDEX);
        for (int braid : WRONG_BRAIDS) {
            due("leastPlace(" + braid + ", 0)", x.leastPlace(braid, 0), BAD_INDEX);
        }
    }

    private void promise27Widest() {
        promise = "promise 27";
        due("no rounds", Made.woven(0).widest(0), 1);
        due("2 rounds", Made.woven(2).widest(0), 0);
        due("all certain", Made.woven(20).widest(0), NONE);
        due("no flows", new CounterBraid().widest(0), NONE);
        CounterBraid x = new CounterBraid();
        x.setFirst(2, 8, 4);
        x.addFlow(1);
        x.addFlow(2);
        x.addFlow(3);
        x.count(1, 2, 9);
        due("of several the lowest one", x.widest(1), 0);
        x.addFlow(5);
        x.setRounds(0);
        x.setRounds(20);
        due("a flow more", x.widest(1), 0);
        for (int i = 0; i < 3; i++) {
            x.undo();
        }
        x.clear(1);
        due("a flow less", x.widest(1), NONE);
        x.count(1, 0, 1);
        due("bounds 0 and 1", x.widest(1), 0);
        // The bounds are 16 and 44, 5 and 49, ..
        CounterBraid y = Made.woven(2, new int[] {19, 11, 14, 9, 18}, new int[] {18, 23, 2, 26, 26});
        due("the width counts, not the height", y.widest(0), 1);
        for (int braid : WRONG_BRAIDS) {
            due("widest(" + braid + ")", x.widest(braid), BAD_INDEX);
        }
    }

    private void promise28LeastSpace() {
        promise = "promise 28";
        CounterBraid x = Made.threeFlows();
        due("nothing was counted", x.leastSpace(0), 2);
        x.count(0, 0, 5);
        x.count(0, 1, 20);
        x.count(0, 2, 100);
        due("leastSpace(0)", x.leastSpace(0), 6);
        due("leastSpace(1)", x.leastSpace(1), 2);
        due("no flows", new CounterBraid().leastSpace(1), 2);
        CounterBraid y = Made.woven(5);
        long before = y.digest();
        due("5 rounds", y.leastSpace(0), 7);
        due("digest() behind it", y.digest(), before);
        due("form(0) behind it", y.form(0), 7);
        due("undo() behind it", y.undo(), 4);
        due("4 rounds", Made.woven(4).leastSpace(0), NONE);
        y.addBraid(0, 1);
        y.clear(0);
        due("the other braid", y.leastSpace(0), 2);
        for (int braid : WRONG_BRAIDS) {
            due("leastSpace(" + braid + ")", y.leastSpace(braid), BAD_INDEX);
        }
    }

    /** With one function and 8 bits all flows are certain just where their values have places of their own. */
    private void promise28LeastSpaceByParting() {
        promise = "promise 28, by parting";
        int[][] rows = {{0, 8}, {0, 1}, {319, 624, 687, 449, 644, 586}, {319, 624, 687, 449, 644, 586, 3}};
        int[] least = {3, 2, 24, NONE};
        for (int i = 0; i < rows.length; i++) {
            CounterBraid x = new CounterBraid();
            x.setFirst(2, 8, 1);
            for (int flow = 0; flow < rows[i].length; flow++) {
                x.addFlow(rows[i][flow]);
                x.count(1, flow, 1 + flow);
            }
            due("the row " + i, leastParting(rows[i]), least[i]);
            due("leastSpace(1) of the row " + i, x.leastSpace(1), least[i]);
        }
    }

    private static int leastParting(int[] keys) {
        for (int m = 2; m <= 24; m++) {
            Set<Integer> places = new HashSet<>();
            for (int key : keys) {
                places.add((key * 41 + 5) % 1009 % m);
            }
            if (places.size() == keys.length) {
                return m;
            }
        }
        return NONE;
    }

    private void promise29Bits() {
        promise = "promise 29";
        CounterBraid x = new CounterBraid();
        due("bits()", x.bits(), 12 * 4 + 32 * 6);
        x.setFirst(24, 8, 1);
        x.setSecond(16, 1);
        due("the most", x.bits(), 728);
        x.setFirst(2, 1, 4);
        x.setSecond(1, 3);
        due("the least", x.bits(), 36);
    }

    private void promise30BitsForEach() {
        promise = "promise 30";
        CounterBraid x = new CounterBraid();
        due("no flows", x.bitsForEach(), NONE);
        for (int flows = 1; flows <= 16; flows++) {
            x.addFlow(flows);
            due(flows + " flows", x.bitsForEach(), Float.floatToIntBits(240f / flows));
        }
        for (int above = 1; above <= 16; above++) {
            for (int m = 2; m <= 24; m += 11) {
                x.setFirst(m, 1 + above % 8, 1);
                x.setSecond(above, 1);
                float each = (float) (m * (2 + above % 8) + 32 * above) / 16f;
                due("form " + m + ", " + above, x.bitsForEach(), Float.floatToIntBits(each));
            }
        }
        CounterBraid y = Made.threeFlows();
        due("240 / 3", y.bitsForEach(), 0x42A00000);
        y.setSecond(1, 1);
        y.setFirst(2, 1, 1);
        due("36 / 3", y.bitsForEach(), 0x41400000);
        y.setFirst(5, 2, 1);
        due("47 / 3, which no float holds", y.bitsForEach(), 0x417AAAAB);
    }

    private void promise31Undo() {
        promise = "promise 31";
        CounterBraid x = new CounterBraid();
        due("undo() of none", x.undo(), BAD_STATE);
        x.setRounds(1);
        x.setRounds(2);
        x.setRounds(3);
        due("undo()", x.undo(), 2);
        due("form(5)", x.form(5), 2);
        due("undo() is not recorded", x.undo(), 1);
        due("form(5)", x.form(5), 1);
        for (int rounds = 2; rounds <= 9; rounds++) {
            x.setRounds(rounds);
        }
        for (int left = 4; left >= 0; left--) {
            due("undo() of the latest five", x.undo(), left);
            due("form(5)", x.form(5), 4 + left);
        }
        due("undo() of none", x.undo(), BAD_STATE);
        due("form(5) stays", x.form(5), 4);
        due("a call that changes nothing", x.setRounds(4), 4);
        due("is recorded", x.undo(), 0);
    }

    private void promise31UndoOfEachRecordedCall() {
        promise = "promise 31, each call";
        for (int call = 0; call < 8; call++) {
            CounterBraid x = Made.woven(20);
            x.count(1, 3, 1000);
            Made.typeAll(x, "5+100");
            long before = x.digest();
            long answer = recorded(x, call);
            due("call " + call + " has no error", answer < 0 ? 1 : 0, 0);
            due("call " + call + " changes the state", x.digest() == before ? 1 : 0, 0);
            due("undo() of call " + call, x.undo(), 4);
            due("digest()", x.digest(), before);
            due("the text stays", x.clearText(), 5);
        }
    }

    private static long recorded(CounterBraid x, int call) {
        switch (call) {
            case 0: return x.setFirst(3, 1, 1);
            case 1: return x.setSecond(3, 1);
            case 2: return x.setRounds(1);
            case 3: return x.addFlow(500);
            case 4: return x.count(1, 0, 77);
            case 5: return x.addBraid(0, 1);
            case 6: return x.clear(0);
            default: return x.load();
        }
    }

    private void promise31WhatIsNotRecorded() {
        promise = "promise 31, not recorded";
        CounterBraid x = new CounterBraid();
        x.addFlow(7);
        x.setFirst(1, 1, 1);
        x.setSecond(0, 1);
        x.setRounds(61);
        x.addFlow(7);
        x.count(0, 0, 0);
        x.addBraid(0, 0);
        x.clear(2);
        x.load();
        x.type(55);
        x.clearText();
        x.type(55);
        x.textFault();
        x.leastSpace(0);
        x.certain(0);
        x.digest();
        due("undo()", x.undo(), 0);
        due("form(6)", x.form(6), 0);
        due("the text stays", x.clearText(), 1);
    }

    private void promise32Type() {
        promise = "promise 32";
        CounterBraid x = new CounterBraid();
        due("type(-1)", x.type(-1), BAD_VALUE);
        due("type(256)", x.type(256), BAD_VALUE);
        due("type(0)", x.type(0), 1);
        due("type(255)", x.type(255), 2);
        for (int length = 3; length <= 100; length++) {
            due("type(49)", x.type(49), length);
        }
        due("a 101st byte", x.type(49), FULL);
        due("a wrong 101st byte", x.type(256), BAD_VALUE);
        due("clearText()", x.clearText(), 100);
    }

    private void promise33ClearText() {
        promise = "promise 33";
        CounterBraid x = Made.withText("1;2");
        due("clearText()", x.clearText(), 3);
        due("clearText() again", x.clearText(), 0);
        due("textFault()", x.textFault(), 0);
        due("type(49)", x.type(49), 1);
        due("textFault()", x.textFault(), NONE);
    }

    private void promise34TextFault() {
        promise = "promise 34";
        String[] right = {"0", "999", "05", "0005", "0999", "0000", "1+1", "1+9999", "1+0001", " 1 ", "   12 + 3  ;4 ; 5+6 ",
            "1;1;1+2;1", "1;2;3;4;5;6;7;8;9;10;11;12;13;14;15;16;16;15+3"};
        for (String text : right) {
            due("\"" + text + "\"", Made.withText(text).textFault(), NONE);
        }
        dueFaults(new String[] {"", " ", "    ", "1;", "1; ", "1+", "1 + ", "1+2;"});
        Object[][] wrong = {{"1000", 0}, {" 1000 ", 1}, {"9999+1", 0}, {"00001", 0}, {"00000", 0}, {"12345678901234", 0},
            {"1+0", 2}, {"1 + 0000", 4}, {"1+00001", 2}, {"1+10000", 2}, {"1+0;x", 2}, {"1000x", 0}, {"1 2", 2},
            {"1+2 3", 4}, {"1+2+3", 3}, {"1;;2", 2}, {";1", 0}, {"+1", 0}, {"1++2", 2}, {"1+;2", 2}, {"x", 0}, {"1x", 1},
            {"1+x", 2}, {"1+2x", 3}, {"1;x", 2}, {"-1", 0}, {"1+-1", 2}, {"1,2", 1}, {"1\t", 1}, {"\n1", 0}, {"1;2;1000", 4},
            {"1;2+0;1000", 4}, {"1/", 1}, {"1:", 1}, {"/", 0}, {":", 0}, {"1\0", 1}, {"\u00ff", 0}, {"5 +3;5 + 3 4", 11}};
        for (Object[] row : wrong) {
            due("\"" + row[0] + "\"", Made.withText((String) row[0]).textFault(), (Integer) row[1]);
        }
        String longest = "1;".repeat(49) + "1 ";
        due("100 bytes", Made.withText(longest).textFault(), NONE);
        due("100 bytes that end too early", Made.withText("1;".repeat(50)).textFault(), 100);
        due("100 digits", Made.withText("1".repeat(100)).textFault(), 0);
        due("100 blanks", Made.withText(" ".repeat(100)).textFault(), 100);
        CounterBraid x = Made.withText("1;2+3");
        long before = x.digest();
        x.textFault();
        due("nothing is changed", x.digest(), before);
    }

    private void dueFaults(String[] tooShort) {
        for (String text : tooShort) {
            due("\"" + text + "\"", Made.withText(text).textFault(), text.length());
        }
    }

    private void promise34SeventeenthFlow() {
        promise = "promise 34, a 17th flow";
        String sixteen = "1;2;3;4;5;6;7;8;9;10;11;12;13;14;15;16";
        due("16 keys", Made.withText(sixteen).textFault(), NONE);
        due("a 17th one", Made.withText(sixteen + "; 17").textFault(), sixteen.length() + 2);
        for (String known : new String[] {"1", "03+7", "0016"}) {
            due("a known one, " + known, Made.withText(sixteen + ";" + known).textFault(), NONE);
        }
        CounterBraid x = Made.withText("300;8;5;5;6");
        for (int key = 0; key < 15; key++) {
            x.addFlow(100 + key);
        }
        due("one flow is left", x.textFault(), 4);
        due("and once more", x.textFault(), 4);
        x.addFlow(300);
        due("none is left, but the first one is known", x.textFault(), 4);
        x.clearText();
        Made.typeAll(x, "100;114;300+5;1");
        due("the last one is new", x.textFault(), 14);
        due("load()", x.load(), BAD_STATE);
        due("form(6)", x.form(6), 16);
    }

    private void promise35Load() {
        promise = "promise 35";
        CounterBraid x = Made.threeFlows();
        Made.typeAll(x, " 8 + 20;007+5; 42; 300 +100 ;42+9;7");
        due("load()", x.load(), 4);
        due("flowOf(42)", x.flowOf(42), 3);
        long[] truths = {6, 20, 100, 10};
        for (int flow = 0; flow < truths.length; flow++) {
            due("truth(0, " + flow + ")", x.truth(0, flow), truths[flow]);
        }
        due("the other braid", x.total(1, 0), 0);
        due("rest(0, 0)", x.rest(0, 0), 6);
        due("the text stays", x.textFault(), NONE);
        due("load() again", x.load(), 4);
        due("truth(0, 2)", x.truth(0, 2), 200);
        due("undo() of one call", x.undo(), 4);
        due("undo() of one call", x.undo(), 3);
        due("form(6)", x.form(6), 3);
        due("truth(0, 2)", x.truth(0, 2), 0);
        CounterBraid y = Made.withText("1;2;");
        due("a text with a fault", y.load(), BAD_STATE);
        due("an empty text", new CounterBraid().load(), BAD_STATE);
        due("form(6)", y.form(6), 0);
        due("undo()", y.undo(), BAD_STATE);
        CounterBraid z = Made.withText("30;20;10");
        due("load()", z.load(), 3);
        due("key(0)", z.key(0), 30);
        due("key(2)", z.key(2), 10);
        CounterBraid longest = Made.withText("1;".repeat(49) + "1 ");
        due("load() of 50 items", longest.load(), 1);
        due("truth(0, 0)", longest.truth(0, 0), 50);
    }

    private void promise35LoadFull() {
        promise = "promise 35, full";
        CounterBraid x = Made.threeFlows();
        Made.fill(x, 998750);
        due("truth(0, 0)", x.truth(0, 0), 999990000);
        Made.typeAll(x, "7+9999;8+9999;7");
        due("load() to 1000 million", x.load(), 3);
        due("truth(0, 0)", x.truth(0, 0), 1000000000);
        due("load() again", x.load(), FULL);
        x.clearText();
        Made.typeAll(x, "7");
        due("one item alone", x.load(), FULL);
        x.undo();
        x.clearText();
        Made.typeAll(x, "7+9998;8+9999;300+9999");
        due("load() of others that count more", x.load(), 3);
        x.undo();
        x.clearText();
        Made.typeAll(x, "7+9999;8+9999;7");
        Made.typeAll(x, ";9+5;7");
        long before = x.digest();
        due("items that fit one by one, not all together", x.load(), FULL);
        due("digest() behind it", x.digest(), before);
        x.clearText();
        Made.typeAll(x, "7+9999;7+9999;");
        due("a fault comes ahead of it", x.load(), BAD_STATE);
        x.clearText();
        Made.typeAll(x, "8+9999;300");
        due("load() of others", x.load(), 3);
        x.clear(1);
        x.addBraid(0, 1);
        x.clear(0);
        x.clearText();
        Made.typeAll(x, "7+9999;7+9999");
        due("load() where braid 1 is full", x.load(), 3);
    }

    private void promise36Digest() {
        promise = "promise 36";
        CounterBraid x = new CounterBraid();
        long h = 17;
        for (int v : new int[] {12, 3, 3, 6, 2, 20, 0}) {
            h = 31 * h + v;
        }
        for (int i = 0; i < 2 * (2 * 12 + 6); i++) {
            h = 31 * h;
        }
        due("a new object", x.digest(), h);
        x.setFirst(2, 1, 1);
        x.setSecond(1, 1);
        x.addFlow(4);
        x.addFlow(0);
        x.count(0, 0, 5);
        x.count(0, 1, 4);
        x.count(1, 1, 1);
        // The flow 4 has the place 1 (169 modulo 2), the flow 0 as well (5 modulo 2).
        long g = 17;
        for (int v : new int[] {2, 1, 1, 1, 1, 20, 2, 4, 0, 5, 4, 0, 0, 1, 1, 4, 0, 1, 0, 0, 1, 0, 0}) {
            g = 31 * g + v;
        }
        due("digest()", x.digest(), g);
    }
}
