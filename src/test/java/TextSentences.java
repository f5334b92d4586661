/** "Text" in the document's description. */
final class TextSentences {
    private static final String SIXTEEN = "1;2;3;4;5;6;7;8;9;10;11;12;13;14;15;16";

    private final Sentences doc;

    TextSentences(Sentences doc) {
        this.doc = doc;
    }

    void all() {
        doc.from("Text");
        length();
        grammar();
        items();
        digits();
        blanks();
        firstFault();
        tooShort();
        outOfRange();
        seventeenthFlow();
    }

    private void dueFault(String text, int fault) {
        doc.due("textFault() of \"" + text + "\"", Made.withText(text).textFault(), fault);
    }

    private void dueRight(String... texts) {
        for (String text : texts) {
            dueFault(text, -1);
        }
    }

    private void dueTooShort(String... texts) {
        for (String text : texts) {
            dueFault(text, text.length());
        }
    }

    /** The text is loaded into a new object; keys and counts of its flows are due. */
    private void dueLoaded(String text, int[] keys, long[] counts) {
        CounterBraid x = Made.withText(text);
        doc.due("load() of \"" + text + "\"", x.load(), keys.length);
        for (int flow = 0; flow < keys.length; flow++) {
            doc.due("key(" + flow + ") behind \"" + text + "\"", x.key(flow), keys[flow]);
            doc.due("truth(0, " + flow + ") behind \"" + text + "\"", x.truth(0, flow), counts[flow]);
            doc.due("truth(1, " + flow + ") behind \"" + text + "\"", x.truth(1, flow), 0);
        }
    }

    private void length() {
        doc.says("Counts can be given by a text of at most 100 bytes with this grammar:");
        CounterBraid x = Made.withText("1;".repeat(49) + "2");
        doc.due("textFault() of 99 bytes", x.textFault(), -1);
        doc.due("type(48) as the 100th", x.type('0'), 100);
        doc.due("textFault() of 100 bytes", x.textFault(), -1);
        doc.due("type(48) as the 101st", x.type('0'), -5);
        doc.due("load() of 100 bytes", x.load(), 2);
        doc.due("key(1)", x.key(1), 20);
        doc.due("truth(0, 0)", x.truth(0, 0), 49);
        dueFault("1;".repeat(50), 100);
        dueFault(" ".repeat(99) + "x", 99);
        dueFault("1;".repeat(49) + "1x", 99);
        dueRight(" ".repeat(99) + "7", "7" + " ".repeat(99), "7+" + " ".repeat(97) + "1");
    }

    private void grammar() {
        doc.says("list = item { \";\" item } item = number [ \"+\" number ]");
        dueRight("1", "1;2", "1;2;3", "1+2", "1+2;3+4", "1;2+3;4", "1+2;3");
        dueFault("1;;2", 2);
        dueFault(";1", 0);
        dueFault("+1", 0);
        dueFault("1++2", 2);
        dueFault("1+2+3", 3);
        dueFault("1+;2", 2);
        dueFault("1;+2", 2);
        dueFault("1,2", 1);
        dueFault("1-2", 1);
        dueFault("-1", 0);
        dueTooShort("1;", "1+", "1;2;", "1;2+", "1+2;");
    }

    private void items() {
        doc.says("The first number is a key, 0 to 999;");
        dueLoaded("0;999", new int[] {0, 999}, new long[] {1, 1});
        dueFault("1000", 0);
        dueFault("5;1000", 2);
        dueFault("9999+1", 0);

        doc.says("the second one is by how much its flow counts in braid 0, 1 to 9999 (1 without it).");
        dueLoaded("5+1;6+9999;7;5+20", new int[] {5, 6, 7}, new long[] {21, 9999, 1});
        dueFault("5+0", 2);
        dueFault("5+10000", 2);
        CounterBraid x = Made.withText("7;8+20;300+100");
        x.load();
        CounterBraid y = Made.threeFlows();
        y.count(0, 0, 1);
        y.count(0, 1, 20);
        y.count(0, 2, 100);
        doc.due("digest()", x.digest(), y.digest());

        doc.says("A flow with this key is added if there is none.");
        CounterBraid z = Made.threeFlows();
        Made.typeAll(z, "8;9;7+4;9+2;0300");
        doc.due("load()", z.load(), 4);
        int[] keys = {7, 8, 300, 9};
        long[] truths = {4, 1, 1, 3};
        for (int flow = 0; flow < keys.length; flow++) {
            doc.due("key(" + flow + ")", z.key(flow), keys[flow]);
            doc.due("truth(0, " + flow + ")", z.truth(0, flow), truths[flow]);
        }
    }

    private void digits() {
        doc.says("Numbers have 1 to 4 digits.");
        dueRight("0", "00", "000", "0000", "1", "12", "123", "0123", "1+1", "1+12", "1+123", "1+1234", "1+0001");
        dueFault("00000", 0);
        dueFault("00123", 0);
        dueFault("1+00001", 2);
        dueFault("1+12345", 2);
        dueTooShort("", "1;", "1+");
    }

    private void blanks() {
        doc.says("Blanks (32) may stand anywhere except within numbers (a blank ends a number),");
        dueRight("1 ;2", "1; 2", "1 +2", "1+ 2", "1+2 ;3", "1   ;   2   +   3   ;   4");
        dueLoaded("12 + 34 ; 56", new int[] {12, 56}, new long[] {34, 1});
        dueFault("1 2", 2);
        dueFault("1  2", 3);
        dueFault("1+2 3", 4);
        dueFault("1 2+3", 2);
        dueFault("1;2 3", 4);
        dueFault("1 000", 2);
        // Other signs that part words are no blanks: the tabulator, line ends, and 160.
        for (char sign : new char[] {0, 9, 10, 11, 12, 13, 31, 33, 160}) {
            dueFault("1" + sign, 1);
            dueFault(sign + "1", 0);
        }

        doc.says("also ahead of the first item and behind the last one.");
        dueRight(" 1", "    1", "1 ", "1    ", " 1+2 ", "  1;2+3   ");
        dueLoaded("   5   ", new int[] {5}, new long[] {1});
        dueLoaded("   5+6   ", new int[] {5}, new long[] {6});
    }

    private void firstFault() {
        doc.says("The fault of the text is the position, from 0, of the first byte that is not allowed at its place,");
        // Ahead of a key, in a key, behind it, ahead of a second number, in it, behind it, and all of them in a later item.
        String[] heads = {"", " ", "1", "1 ", "1+", "1+ ", "1+2", "1+2 ", "9;", "9; ", "9;1", "9;1 ", "9;1+", "9;1+2", "9;1+2 "};
        String[] allowed = {" 0123456789", " 0123456789", " 0123456789+;", " +;", " 123456789", " 123456789",
            " 0123456789;", " ;", " 0123456789", " 0123456789", " 0123456789+;", " +;", " 123456789", " 0123456789;", " ;"};
        for (int place = 0; place < heads.length; place++) {
            CounterBraid x = null;
            for (int code = 0; code <= 255; code++) {
                if (code % 16 == 0) {
                    x = new CounterBraid();
                }
                x.clearText();
                Made.typeAll(x, heads[place]);
                x.type(code);
                // What follows ends the number, or goes on where there must be one: no fault at the byte itself.
                x.type(code == '+' || code == ';' || place == 0 ? '1' : ' ');
                int fault = x.textFault();
                boolean isAllowed = allowed[place].indexOf(code) >= 0;
                doc.due("\"" + heads[place] + "\" and the byte " + code + " has this byte as its fault",
                        fault == heads[place].length() ? 1 : 0, isAllowed ? 0 : 1);
            }
        }
        dueFault("x;y", 0);
        dueFault("1;y;1000", 2);
        dueFault("1;1000;y", 2);
        dueFault("1;2+0;1000;y", 4);
    }

    private void tooShort() {
        doc.says("or its length, if it ends too early");
        String text = " 1 + 23;456 ;7+8 ; 9 ";
        String isWhole = "nnyynnyynyyyynynyynnyy";
        for (int length = 0; length <= text.length(); length++) {
            boolean whole = length > 0 && isWhole.charAt(length) == 'y';
            dueFault(text.substring(0, length), whole ? -1 : length);
        }
        dueTooShort(" ", "   ", "1; ", "1;   ", "1+ ", "1 +  ", "1+2; ", "999;", "999+", "5+9999;");
        CounterBraid x = Made.withText("5;");
        doc.due("load() of \"5;\"", x.load(), -4);

        doc.says("(also if it is empty).");
        doc.due("textFault() of a new object", new CounterBraid().textFault(), 0);
        x.clearText();
        doc.due("textFault() behind clearText()", x.textFault(), 0);
        doc.due("load() behind clearText()", x.load(), -4);
    }

    private void outOfRange() {
        doc.says("Not allowed are also the first digit of a number that is out of its range");
        dueFault("1000 ", 0);
        dueFault("   1000;1", 3);
        dueFault("9999x", 0);
        dueFault("1+0", 2);
        dueFault("1 + 0 ;2", 4);
        dueFault("1+0000;2", 2);
        dueFault("1+0x", 2);
        dueFault("3;1+00", 4);
        dueRight("999 ", "1+1", "1+9999");

        doc.says("or has more than four digits");
        dueFault("00001;2", 0);
        dueFault("  00000+1", 2);
        dueFault("1+00001;2", 2);
        dueFault("1+10000;2", 2);
        dueFault("1;00002;3", 2);
        dueFault("00001x", 0);
        dueFault("1".repeat(100), 0);
        dueFault("1+" + "0".repeat(97) + "1", 2);
        // As many digits as would come back to an allowed number in an int or a long.
        dueFault("4294967301", 0);
        dueFault("18446744073709551621", 0);
        dueFault("1+4294967301", 2);

        doc.says("(also if the text ends behind it; 05 is 5),");
        dueFault("1000", 0);
        dueFault("00001", 0);
        dueFault("1+0", 2);
        dueFault("1+10000", 2);
        dueLoaded("05", new int[] {5}, new long[] {1});
        dueLoaded("0005;5+0007;005+07", new int[] {5}, new long[] {15});
        dueLoaded("00;0+0009", new int[] {0}, new long[] {10});
        dueRight("0999+0010");
    }

    private void seventeenthFlow() {
        doc.says("and the first digit of a key for which a 17th flow would have to be added");
        for (int key : new int[] {16, 17, 999}) {
            CounterBraid x = Made.sixteenFlows();
            Made.typeAll(x, "  " + key);
            doc.due("textFault() of the new key " + key, x.textFault(), 2);
            doc.due("load()", x.load(), -4);
            x.clearText();
            Made.typeAll(x, "15;0+3;0" + key + "+0");
            doc.due("textFault() of a later item", x.textFault(), 7);
        }
        CounterBraid x = Made.sixteenFlows();
        Made.typeAll(x, "0;15+3;0007");
        doc.due("textFault() of known keys", x.textFault(), -1);
        doc.due("load() of known keys", x.load(), 16);
        x.undo();
        x.undo();
        x.clearText();
        Made.typeAll(x, "500");
        doc.due("textFault() of a new key of 15 flows", x.textFault(), -1);
        doc.due("load()", x.load(), 16);
        doc.due("textFault() of the key, now known", x.textFault(), -1);

        doc.says("(items before it in the text count, too).");
        dueRight(SIXTEEN, SIXTEEN + ";1", SIXTEEN + ";016+2;1");
        dueFault(SIXTEEN + ";17", SIXTEEN.length() + 1);
        dueFault(SIXTEEN + "+5;1; 0", SIXTEEN.length() + 6);
        dueFault("1;1+3;" + SIXTEEN + ";0", SIXTEEN.length() + 7);
        for (int flows = 0; flows <= 16; flows++) {
            CounterBraid y = new CounterBraid();
            for (int flow = 0; flow < flows; flow++) {
                y.addFlow(100 + flow);
            }
            // Known keys take no room, new ones do, but once only.
            Made.typeAll(y, flows > 0 ? "100;" : "");
            for (int key = 10; key < 10 + 16 - flows; key++) {
                Made.typeAll(y, key + ";");
            }
            Made.typeAll(y, flows < 16 ? "10;" : "");
            int length = y.type('7') - 1;
            doc.due("textFault(), one new key too many on " + flows + " flows", y.textFault(), length);
        }
    }
}
