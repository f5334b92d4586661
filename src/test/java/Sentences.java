import java.util.Map;
import java.util.function.Supplier;

/**
 * The document, sentence by sentence: from(..) names a part of it, says(..) quotes a sentence, and the answers that are
 * due behind it would be others if this sentence were broken.
 */
final class Sentences {
    private final Check check = new Check();
    private final Document document = new Document();
    private String part = "";
    private String sentence = "";
    private int answers = 1;

    void from(String nextPart) {
        part = nextPart;
    }

    void says(String nextSentence) {
        dueAnswers();
        sentence = nextSentence;
        answers = 0;
        check.due(name("the document has this sentence"), document.quote(part, sentence) ? 1 : 0, 1);
    }

    private String name(String call) {
        return part + ", \"" + sentence + "\": " + call;
    }

    private void dueAnswers() {
        check.due(name("has answers"), answers > 0 ? 1 : 0, 1);
    }

    void due(String call, long got, long want) {
        answers++;
        check.due(name(call), got, want);
    }

    /** The call answers so, and everything stays as it is: form, flows, counters, text and history. */
    void dueUnchanged(Supplier<CounterBraid> made, String name, Call call, long want) {
        CounterBraid x = made.get();
        CounterBraid untouched = made.get();
        due(name, call.on(x), want);
        dueSame("behind " + name, x, untouched);
    }

    /** The call has no error, and the latest state of the history is the one from before it. */
    void dueRecorded(Supplier<CounterBraid> made, String name, Call call) {
        CounterBraid x = made.get();
        long before = x.digest();
        due(name + " has an error", call.on(x) < 0 ? 1 : 0, 0);
        due("undo() behind " + name, x.undo(), Math.min(statesIn(made.get()), 4));
        due("digest() behind undo() behind " + name, x.digest(), before);
    }

    /** Uses both up: their texts grow, and their histories are taken off. */
    void dueSame(String when, CounterBraid x, CounterBraid y) {
        due("digest() " + when, x.digest(), y.digest());
        due("textFault() " + when, x.textFault(), y.textFault());
        due("length of the text " + when, x.type(' '), y.type(' '));
        int left = 0;
        while (left >= 0) {
            left = x.undo();
            due("undo() " + when, left, y.undo());
            due("digest() behind undo() " + when, x.digest(), y.digest());
        }
    }

    static int statesIn(CounterBraid x) {
        int states = 0;
        while (x.undo() >= 0) {
            states++;
        }
        return states;
    }

    /** Ends the program; sentences of the document that were not quoted have no test, and count as wrong. */
    void end(String test) {
        dueAnswers();
        for (Map.Entry<String, String> left : document.leftOver().entrySet()) {
            check.due("sentences without a test, " + left.getKey() + ": " + left.getValue(), 1, 0);
        }
        check.end(test);
    }
}
