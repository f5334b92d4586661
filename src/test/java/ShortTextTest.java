/**
 * Every text of up to six of the signs that matter, against the model: its fault, and what it loads. This is done
 * without flows, and where there is room for one flow more, so that the items of a text count against each other.
 */
public final class ShortTextTest {
    private static final char[] SIGNS = {'0', '1', '9', '+', ';', ' ', 'x'};
    private static final int LONGEST = 6;
    private static final int TEXTS_OF_AN_OBJECT = 40;

    private final Check check = new Check();
    private CounterBraid braid;
    private Model model;
    private int flows;
    private int texts;

    public static void main(String[] args) {
        ShortTextTest test = new ShortTextTest();
        for (int flows : new int[] {0, 15}) {
            test.flows = flows;
            test.texts = 0;
            test.extend("");
        }
        test.check.end("ShortTextTest");
    }

    private void extend(String text) {
        compare(text);
        for (int i = 0; i < SIGNS.length && text.length() < LONGEST; i++) {
            extend(text + SIGNS[i]);
        }
    }

    private void compare(String text) {
        if (texts % TEXTS_OF_AN_OBJECT == 0) {
            begin();
        }
        texts++;
        braid.clearText();
        model.clearText();
        for (int i = 0; i < text.length(); i++) {
            braid.type(text.charAt(i));
            model.type(text.charAt(i));
        }
        check.due("textFault() of \"" + text + "\"", braid.textFault(), model.textFault());
        long loaded = braid.load();
        check.due("load() of \"" + text + "\"", loaded, model.load());
        if (loaded >= 0) {
            check.due("digest() behind \"" + text + "\"", braid.digest(), model.digest());
            braid.undo();
            model.undo();
        }
    }

    /** The flow with the key 1 is one of those that are there. */
    private void begin() {
        braid = new CounterBraid();
        model = new Model();
        for (int flow = 0; flow < flows; flow++) {
            int key = flow == 0 ? 1 : 100 + flow;
            braid.addFlow(key);
            model.addFlow(key);
        }
    }
}
