/** Promise 22: count. */
public final class CountTest {
    public static void main(String[] args) {
        Check.run(CountTest.class);
    }

    private static void counts(SwitchDesk x, int... want) {
        for (int i = 0; i < want.length; i++) {
            Check.due("count(" + i + ")", x.count(i), want[i]);
        }
    }

    @Says("0 NODES, 1 WORDS, 2 bytes of the TAPE, 3 letters WRITTEN, 4 FORESEEN, 5 OFFERED.")
    private static void promise22_aNewObject() {
        counts(new SwitchDesk(), 1, 0, 0, 0, 0, 0);
    }

    @Says("0 NODES, 1 WORDS, 2 bytes of the TAPE, 3 letters WRITTEN, 4 FORESEEN, 5 OFFERED.")
    private static void promise22_eachByItself() {
        SwitchDesk x = new SwitchDesk();
        Check.word(x, "bb", 1);
        Check.word(x, "aba", 1);
        Check.word(x, "abb", 1);
        Check.write(x, "a ab");
        x.clear();
        Check.letters(x, 0, "abcd");
        Check.feed(x, "uvwxyz");
        counts(x, 5, 3, 6, 2, 2, 1);
    }

    @Says("0 NODES")
    private static void promise22_nodesTo60() {
        SwitchDesk x = new SwitchDesk();
        for (int i = 1; i < 60; i++) {
            x.node(0, i % 2, 'a');
            Check.due("count(0)", x.count(0), i + 1);
        }
        x.node(0, 0, 0);
        Check.due("count(0)", x.count(0), 60);
    }

    @Says("1 WORDS")
    private static void promise22_wordsTo40() {
        SwitchDesk x = new SwitchDesk();
        for (int i = 0; i < 42; i++) {
            x.end(0);
            Check.word(x, "" + (char) ('a' + i / 26) + (char) ('a' + i % 26), 1);
            Check.due("count(1)", x.count(1), Math.min(40, i + 1));
        }
    }

    @Says("2 bytes of the TAPE")
    private static void promise22_bytesOfTheTapeTo26() {
        SwitchDesk x = new SwitchDesk();
        for (int i = 0; i < 28; i++) {
            x.feed(0, 200);
            Check.due("count(2)", x.count(2), Math.min(26, i + 1));
        }
    }

    @Says("3 letters WRITTEN")
    private static void promise22_lettersWrittenFrom0To200() {
        SwitchDesk x = new SwitchDesk();
        Check.write(x, "z ");
        Check.due("behind 32", x.count(3), 0);
        Check.write(x, "az");
        Check.due("behind two letters", x.count(3), 2);
        Check.only(x, 5, 0, 1);
        Check.due("of an empty text", x.count(3), 0);
        Check.only(x, 1, 'z', 200);
        Check.due("of a full text", x.count(3), 200);
    }

    @Says("4 FORESEEN, 5 OFFERED.")
    private static void promise22_foreseenAndOfferedTo0() {
        SwitchDesk x = new SwitchDesk();
        Check.word(x, "ab", 1);
        counts(x, 1, 1, 0, 0, 1, 0);
        Check.write(x, "ab");
        counts(x, 2, 1, 0, 2, 0, 0);
        Check.write(x, "a");
        counts(x, 2, 1, 0, 3, 0, 0);
    }

    @Says("NONE for others.")
    private static void promise22_noneForOthers() {
        SwitchDesk x = Check.desk("ab");
        int[] others = {-1, 6, 7, 60, Check.MIN, Check.MAX};
        for (int what : others) {
            Check.due("count(" + what + ")", x.count(what), -1);
        }
    }
}
