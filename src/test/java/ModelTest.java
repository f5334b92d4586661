/**
 * Long runs of calls, each run on a new CounterBraid and a new Model with the same arguments: every answer must be
 * the same. The runs come from a fixed row of numbers, so they are the same each time.
 */
public final class ModelTest {
    private static final int CALLS = 512;
    private static final int RUNS = 1200;
    private static final String SIGNS = "0123456789+; 0019;+ 5;7";

    private final Check check = new Check();
    private long seed;
    private int run;
    private int calls;
    private int textLength;
    private CounterBraid braid;
    private Model model;

    public static void main(String[] args) {
        ModelTest test = new ModelTest();
        for (int run = 0; run < RUNS && test.check.wrong() < 20; run++) {
            test.run(run);
        }
        test.check.end("ModelTest");
    }

    private void run(int number) {
        run = number;
        seed = number * 7919L + 1;
        calls = 0;
        textLength = 0;
        braid = new CounterBraid();
        model = new Model();
        if (pick(3) > 0) {
            chooseForm();
        }
        // What is heavy in a run differs, so that some runs fill up with flows, text or counts.
        int heavy = pick(6);
        while (calls < CALLS - 40) {
            switch (pick(10) < 5 ? heavy : pick(6)) {
                case 0: addSomeFlow(); break;
                case 1: countSome(); break;
                case 2: changeBraids(); break;
                case 3: typeText(); break;
                case 4: askState(); break;
                default: decode(); break;
            }
            if (pick(60) == 0) {
                chooseForm();
            }
            if (pick(8) == 0) {
                due("undo()", braid.undo(), model.undo());
            }
        }
        due("digest()", braid.digest(), model.digest());
    }

    /** 0 to below - 1. */
    private int pick(int below) {
        seed = seed * 6364136223846793005L + 1442695040888963407L;
        return (int) ((seed >>> 33) % below);
    }

    /** Mostly from 0 to greatest, now and then outside of it. */
    private int near(int greatest) {
        switch (pick(24)) {
            case 0: return -1;
            case 1: return greatest + 1;
            case 2: return greatest;
            case 3: return 0;
            case 4: return pick(4) == 0 ? Integer.MIN_VALUE + pick(2) : pick(greatest + 1);
            case 5: return pick(4) == 0 ? Integer.MAX_VALUE - pick(2) : pick(greatest + 1);
            default: return pick(greatest + 1);
        }
    }

    private int someBraid() {
        return pick(3) > 0 ? 0 : near(1);
    }

    private int someFlow() {
        return near(Math.max(0, model.form(6) - 1));
    }

    private int someCounter() {
        return near(model.form(0) - 1);
    }

    private int someKey() {
        return pick(3) == 0 ? near(999) : pick(20);
    }

    private void due(String call, long got, long want) {
        calls++;
        check.due("run " + run + ", call " + calls + ", " + call, got, want);
    }

    private void chooseForm() {
        int m = near(24);
        int d = near(8);
        int k = near(4);
        int n = near(16);
        int q = near(3);
        int r = pick(2) == 0 ? pick(5) : near(60);
        due("setFirst(" + m + ", " + d + ", " + k + ")", braid.setFirst(m, d, k), model.setFirst(m, d, k));
        due("setSecond(" + n + ", " + q + ")", braid.setSecond(n, q), model.setSecond(n, q));
        due("setRounds(" + r + ")", braid.setRounds(r), model.setRounds(r));
    }

    private void addSomeFlow() {
        int key = someKey();
        due("addFlow(" + key + ")", braid.addFlow(key), model.addFlow(key));
    }

    private void countSome() {
        for (int i = pick(4); i >= 0; i--) {
            int b = someBraid();
            int flow = someFlow();
            int many = pick(4) == 0 ? near(1000000) : near(pick(40) + 1);
            due("count(" + b + ", " + flow + ", " + many + ")", braid.count(b, flow, many), model.count(b, flow, many));
        }
    }

    private void changeBraids() {
        int from = pick(8) == 0 ? near(1) : pick(2);
        int to = pick(8) == 0 ? near(1) : 1 - from;
        due("addBraid(" + from + ", " + to + ")", braid.addBraid(from, to), model.addBraid(from, to));
        if (pick(25) == 0) {
            int b = near(1);
            due("clear(" + b + ")", braid.clear(b), model.clear(b));
        }
    }

    private void typeText() {
        if (pick(4) > 0) {
            due("clearText()", braid.clearText(), model.clearText());
            textLength = 0;
        }
        int items = pick(6);
        for (int i = 0; i <= items && calls < CALLS - 40; i++) {
            typeItem();
        }
        if (pick(4) == 0) {
            int code = pick(3) == 0 ? near(255) : SIGNS.charAt(pick(SIGNS.length()));
            due("type(" + code + ")", braid.type(code), model.type(code));
        }
        due("textFault()", braid.textFault(), model.textFault());
        if (pick(2) == 0) {
            due("load()", braid.load(), model.load());
            due("textFault()", braid.textFault(), model.textFault());
        }
    }

    private void typeItem() {
        StringBuilder item = new StringBuilder();
        item.append(textLength == 0 || pick(12) == 0 ? "" : pick(12) == 0 ? ";;" : ";");
        item.append(pick(4) == 0 ? " " : "");
        item.append(pick(10) == 0 ? "00" : "").append(pick(20) == 0 ? pick(12000) : someKeyInText());
        item.append(pick(6) == 0 ? " " : "");
        if (pick(2) == 0) {
            item.append('+').append(pick(6) == 0 ? " " : "");
            item.append(pick(20) == 0 ? pick(12000) : pick(20) == 0 ? 0 : 1 + pick(9999));
        }
        item.append(pick(20) == 0 ? SIGNS.substring(pick(SIGNS.length())).substring(0, 1) : "");
        textLength += item.length();
        for (int i = 0; i < item.length(); i++) {
            due("type(" + (int) item.charAt(i) + ")", braid.type(item.charAt(i)), model.type(item.charAt(i)));
        }
    }

    private int someKeyInText() {
        return pick(3) == 0 ? pick(1000) : pick(20);
    }

    private void askState() {
        int what = near(6);
        due("form(" + what + ")", braid.form(what), model.form(what));
        int flow = someFlow();
        due("key(" + flow + ")", braid.key(flow), model.key(flow));
        due("places(" + flow + ")", braid.places(flow), model.places(flow));
        int key = someKey();
        due("flowOf(" + key + ")", braid.flowOf(key), model.flowOf(key));
        int b = someBraid();
        due("truth(" + b + ", " + flow + ")", braid.truth(b, flow), model.truth(b, flow));
        int c = someCounter();
        due("placesAbove(" + c + ")", braid.placesAbove(c), model.placesAbove(c));
        due("rest(" + b + ", " + c + ")", braid.rest(b, c), model.rest(b, c));
        due("isMarked(" + b + ", " + c + ")", braid.isMarked(b, c), model.isMarked(b, c));
        int above = near(model.form(3) - 1);
        due("above(" + b + ", " + above + ")", braid.above(b, above), model.above(b, above));
        due("bits()", braid.bits(), model.bits());
        due("bitsForEach()", braid.bitsForEach(), model.bitsForEach());
        due("digest()", braid.digest(), model.digest());
    }

    private void decode() {
        int b = someBraid();
        int c = someCounter();
        int f = someFlow();
        boolean upper = pick(2) == 0;
        int rounds = pick(2) == 0 ? pick(4) : near(60);
        String bf = "(" + b + ", " + f + ", ";
        due("overflow(" + b + ", " + c + ", " + upper + ")", braid.overflow(b, c, upper), model.overflow(b, c, upper));
        due("bound" + bf + upper + ")", braid.bound(b, f, upper), model.bound(b, f, upper));
        due("boundAfter" + bf + upper + ", " + rounds + ")", braid.boundAfter(b, f, upper, rounds),
                model.boundAfter(b, f, upper, rounds));
        due("certain(" + b + ")", braid.certain(b), model.certain(b));
        due("certainOverflows(" + b + ")", braid.certainOverflows(b), model.certainOverflows(b));
        due("lastRound(" + b + ")", braid.lastRound(b), model.lastRound(b));
        int what = near(3);
        due("total(" + b + ", " + what + ")", braid.total(b, what), model.total(b, what));
        due("estimate" + bf + ")", braid.estimate(b, f), model.estimate(b, f));
        due("leastPlace" + bf + ")", braid.leastPlace(b, f), model.leastPlace(b, f));
        due("widest(" + b + ")", braid.widest(b), model.widest(b));
        if (pick(4) == 0) {
            due("leastSpace(" + b + ")", braid.leastSpace(b), model.leastSpace(b));
        }
    }
}
