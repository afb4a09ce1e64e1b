/** Promises 9 and 10, length and at, and what keys do to THE TEXT. */
public final class TextTest {
    private static final int A = 1;
    private static final int BACK = 2;
    private static final int UNDO = 3;
    private static final int SAY = 4;
    private static final int FORESEEN = 5;

    public static void main(String[] args) {
        lengthsAndBytes();
        undoOfEach();
        emptySaid();
        fullText();
        hundredActs();
        fullForeseen();
        offeredKey();
        fullOffered();
        Check.close();
    }

    private static SwitchDesk desk() {
        SwitchDesk x = new SwitchDesk();
        x.node(0, 1, 97);
        x.node(0, 2, 0);
        x.node(0, 3, 0);
        x.node(0, 5, 0);
        x.node(0, 4, 0);
        x.node(0, 1, 32);
        return x;
    }

    private static void texts(String name, SwitchDesk x, String text, String said, int acts) {
        Check.due(name + ", text", Check.text(x, 0), text);
        Check.due(name + ", said", Check.text(x, 1), said);
        Check.due(name + ", acts", x.state(7), acts);
    }

    private static void lengthsAndBytes() {
        SwitchDesk x = desk();
        Check.due("at(0, 0)", Check.at(x, 0, 0), Check.NO_SUCH);
        Check.due("at(1, 0)", Check.at(x, 1, 0), Check.NO_SUCH);
        Check.take(x, A);
        Check.take(x, 6);
        Check.due("length(0)", x.length(0), 2);
        Check.due("at(0, 0)", Check.at(x, 0, 0), 97);
        Check.due("at(0, 1)", Check.at(x, 0, 1), 32);
        Check.due("at(0, 2)", Check.at(x, 0, 2), Check.NO_SUCH);
        Check.due("at(0, -1)", Check.at(x, 0, -1), Check.NO_SUCH);
        Check.due("at(0, min)", Check.at(x, 0, 1 << 31), Check.NO_SUCH);
        Check.due("at(0, max)", Check.at(x, 0, 2147483647), Check.NO_SUCH);
        Check.due("at(2, 0)", Check.at(x, 2, 0), Check.NO_SUCH);
        Check.due("at(-1, 0)", Check.at(x, -1, 0), Check.NO_SUCH);
        Check.due("length(2)", x.length(2), -1);
        Check.due("length(-1)", x.length(-1), -1);
        Check.due("length(1)", x.length(1), -1);
        Check.take(x, SAY);
        Check.due("length(1) said", x.length(1), 2);
        Check.due("length(0) said", x.length(0), 0);
        Check.due("at(1, 1)", Check.at(x, 1, 1), 32);
        Check.due("at(1, 2)", Check.at(x, 1, 2), Check.NO_SUCH);
    }

    private static void undoOfEach() {
        SwitchDesk x = desk();
        Check.word(x, "abba", 1);
        Check.take(x, A);
        Check.take(x, SAY);
        Check.take(x, A);
        Check.take(x, FORESEEN);
        Check.take(x, SAY);
        Check.take(x, A);
        Check.take(x, BACK);
        Check.take(x, BACK);
        texts("all", x, "", "abba ", 7);
        Check.take(x, UNDO);
        texts("BACK taken back", x, "a", "abba ", 6);
        Check.take(x, UNDO);
        texts("LETTER taken back", x, "", "abba ", 5);
        Check.take(x, UNDO);
        texts("SAY taken back", x, "abba ", "a", 4);
        Check.take(x, UNDO);
        texts("FORESEEN taken back", x, "a", "a", 3);
        Check.take(x, A);
        texts("an act behind UNDO", x, "aa", "a", 4);
        for (int i = 0; i < 3; i++) {
            Check.take(x, UNDO);
        }
        texts("to the first SAY", x, "a", "none", 1);
        Check.take(x, UNDO);
        Check.take(x, UNDO);
        texts("all taken back", x, "", "none", 0);
    }

    private static void emptySaid() {
        SwitchDesk x = desk();
        Check.take(x, SAY);
        texts("an empty text said", x, "", "", 1);
        Check.take(x, SAY);
        texts("said again changes nothing", x, "", "", 1);
        Check.take(x, A);
        Check.take(x, SAY);
        Check.take(x, SAY);
        texts("empty instead of a", x, "", "", 4);
        Check.take(x, UNDO);
        texts("a again", x, "", "a", 3);
        for (int i = 0; i < 3; i++) {
            Check.take(x, UNDO);
        }
        texts("nothing was said", x, "", "none", 0);
    }

    private static void fullText() {
        SwitchDesk x = desk();
        for (int i = 0; i < 203; i++) {
            x.press();
        }
        Check.due("full", x.length(0), 200);
        Check.due("presses", x.state(6), 203);
        Check.due("acts", x.state(7), 100);
        Check.due("WRITTEN", x.count(3), 200);
        Check.take(x, BACK);
        Check.due("one less", x.length(0), 199);
        Check.take(x, UNDO);
        Check.due("one more", x.length(0), 200);
        Check.take(x, UNDO);
        Check.due("the last letter that came", x.length(0), 199);
        Check.due("acts left", x.state(7), 98);
    }

    private static void hundredActs() {
        SwitchDesk x = new SwitchDesk();
        x.node(0, 1, 97);
        for (int i = 0; i < 105; i++) {
            x.press();
        }
        x.clear();
        x.node(0, 3, 0);
        for (int i = 0; i < 3; i++) {
            x.press();
        }
        Check.due("97 left", x.state(7), 97);
        x.clear();
        x.node(0, 1, 98);
        x.press();
        Check.due("98 with a new one", x.state(7), 98);
        x.clear();
        x.node(0, 3, 0);
        for (int i = 0; i < 100; i++) {
            x.press();
        }
        Check.due("none left", x.state(7), 0);
        Check.due("what came first stays", Check.text(x, 0), "aaaaa");
    }

    private static void fullForeseen() {
        SwitchDesk x = new SwitchDesk();
        x.node(0, 1, 32);
        x.node(0, 4, 0);
        x.node(0, 2, 0);
        x.node(0, 4, 1);
        Check.word(x, "abc", 1);
        for (int i = 0; i < 197; i++) {
            x.press();
        }
        Check.take(x, 2);
        Check.due("four more are too long", x.length(0), 197);
        int acts = x.state(7);
        Check.take(x, 3);
        Check.take(x, 4);
        Check.due("there is no second one", x.length(0), 196);
        Check.take(x, 2);
        Check.due("four more fit", x.length(0), 200);
        Check.due("acts", x.state(7), Math.min(100, acts + 2));
        Check.due("the last one is 32", Check.at(x, 0, 199), 32);
        Check.due("the word", Check.text(x, 0).trim(), "abc");
    }

    private static void offeredKey() {
        SwitchDesk x = new SwitchDesk();
        Check.letters(x, 0, "abc");
        x.node(0, 1, 32);
        x.node(0, 6, 0);
        x.node(0, 6, 1);
        x.node(0, 6, 2);
        x.node(0, 3, 0);
        Check.word(x, "ca", 9);
        Check.word(x, "ab", 3);
        for (int key : new int[] {1, 4, 2, 2}) {
            Check.take(x, key);
        }
        Check.take(x, 7);
        texts("there is no third one", x, "a bb", "none", 4);
        Check.take(x, 6);
        texts("the second one, with two slips", x, "a ca", "none", 5);
        Check.take(x, 5);
        texts("a word has none offered", x, "a ca", "none", 5);
        Check.take(x, 8);
        texts("taken back", x, "a bb", "none", 4);
        Check.take(x, 5);
        texts("the first one, without 32", x, "a ab", "none", 5);
    }

    private static void fullOffered() {
        SwitchDesk x = new SwitchDesk();
        x.node(0, 1, 32);
        Check.letters(x, 0, "ab");
        x.node(0, 6, 0);
        x.node(0, 4, 0);
        Check.word(x, "a", 1);
        for (int i = 0; i < 199; i++) {
            x.press();
        }
        Check.take(x, 5);
        Check.due("a letter and 32 are too long", x.length(0), 199);
        Check.take(x, 3);
        Check.take(x, 4);
        Check.due("as long as before", x.length(0), 200);
        Check.due("the word offered", Check.at(x, 0, 199), 'a');
    }
}
