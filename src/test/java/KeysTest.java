/** Promise 7 again: what a KEY that is taken does to THE TEXT and to what was SAID. */
public final class KeysTest {
    private static final int LETTER = 1;
    private static final int BACK = 2;
    private static final int UNDO = 3;
    private static final int FORESEEN = 4;
    private static final int SAY = 5;
    private static final int OFFERED = 6;
    private static final int SPACE = 32;

    public static void main(String[] args) {
        Check.run(KeysTest.class);
    }

    /** A text of n signs that has no word at its end. */
    private static SwitchDesk spaces(int n) {
        SwitchDesk x = new SwitchDesk();
        Check.only(x, LETTER, SPACE, n);
        Check.due("length(0)", x.length(0), n);
        return x;
    }

    // ---- LETTER

    @Says("LETTER: it comes behind (not, if it is full).")
    private static void promise07_aLetterComesBehind() {
        SwitchDesk x = new SwitchDesk();
        Check.write(x, "az a");
        Check.texts(x, "az a", "none", 4);
    }

    @Says("THE TEXT, bytes (200 at most).")
    private static void promise07_the200thLetterComes() {
        SwitchDesk x = spaces(199);
        Check.write(x, "q");
        Check.due("length(0)", x.length(0), 200);
        Check.due("at(0, 199)", Check.at(x, 0, 199), 'q');
    }

    @Says("LETTER: it comes behind (not, if it is full).")
    private static void promise07_the201stLetterDoesNotCome() {
        SwitchDesk x = spaces(200);
        int presses = x.state(6);
        Check.only(x, LETTER, 'q', 2);
        Check.due("length(0)", x.length(0), 200);
        Check.due("at(0, 199)", Check.at(x, 0, 199), SPACE);
        Check.due("the presses counted", x.state(6), presses + 2);
    }

    @Says("What changes nothing is no act for UNDO.")
    private static void promise07_aLetterThatDidNotComeIsNoAct() {
        SwitchDesk x = spaces(200);
        Check.only(x, UNDO, 0, 50);
        Check.only(x, LETTER, 'q', 50);
        Check.due("length(0)", x.length(0), 200);
        Check.due("acts", x.state(7), 100);
        Check.only(x, LETTER, 'r', 9);
        Check.only(x, UNDO, 0, 1);
        Check.due("the last that came goes", x.length(0), 199);
        Check.due("acts", x.state(7), 99);
    }

    // ---- BACK

    @Says("BACK: the last byte goes (if any).")
    private static void promise07_backToTheEmptyText() {
        SwitchDesk x = new SwitchDesk();
        Check.write(x, "ab");
        Check.only(x, BACK, 0, 1);
        Check.texts(x, "a", "none", 3);
        x.press();
        Check.texts(x, "", "none", 4);
    }

    @Says("BACK: the last byte goes (if any).")
    private static void promise07_backOfAnEmptyText() {
        SwitchDesk x = new SwitchDesk();
        x.node(0, BACK, 0);
        Check.due("press()", x.press(), 1);
        Check.texts(x, "", "none", 0);
        Check.due("it counted", x.state(6), 1);
    }

    @Says("BACK: the last byte goes (if any).")
    private static void promise07_backOfAFullText() {
        SwitchDesk x = spaces(200);
        Check.only(x, BACK, 0, 1);
        Check.due("length(0)", x.length(0), 199);
        Check.write(x, "q");
        Check.due("there is room again", Check.at(x, 0, 199), 'q');
    }

    @Says("BACK: the last byte goes (if any).")
    private static void promise07_backLeavesWhatWasSaid() {
        SwitchDesk x = new SwitchDesk();
        Check.write(x, "ab");
        Check.only(x, SAY, 0, 1);
        Check.only(x, BACK, 0, 1);
        Check.texts(x, "", "ab", 3);
    }

    // ---- SAY

    @Says("SAY: THE TEXT is what was SAID, and is empty.")
    private static void promise07_sayTakesTheTextsPlace() {
        SwitchDesk x = new SwitchDesk();
        Check.write(x, "ab");
        Check.only(x, SAY, 0, 1);
        Check.texts(x, "", "ab", 3);
        Check.write(x, "c");
        Check.texts(x, "c", "ab", 4);
        Check.only(x, SAY, 0, 1);
        Check.texts(x, "", "c", 5);
    }

    @Says("SAY: THE TEXT is what was SAID, and is empty.")
    private static void promise07_aFullTextIsSaid() {
        SwitchDesk x = spaces(200);
        Check.only(x, SAY, 0, 1);
        Check.due("length(0)", x.length(0), 0);
        Check.due("length(1)", x.length(1), 200);
        Check.write(x, "a");
        Check.due("there is room again", Check.text(x, 0), "a");
    }

    @Says("SAY: THE TEXT is what was SAID, and is empty.")
    private static void promise07_anEmptyTextSaidFirstIsAnAct() {
        SwitchDesk x = new SwitchDesk();
        Check.only(x, SAY, 0, 1);
        Check.texts(x, "", "", 1);
        Check.only(x, UNDO, 0, 1);
        Check.texts(x, "", "none", 0);
    }

    @Says("What changes nothing is no act for UNDO.")
    private static void promise07_anEmptyTextSaidAgainIsNoAct() {
        SwitchDesk x = new SwitchDesk();
        Check.only(x, SAY, 0, 3);
        Check.texts(x, "", "", 1);
        Check.due("the presses counted", x.state(6), 3);
    }

    @Says("SAY: THE TEXT is what was SAID, and is empty.")
    private static void promise07_anEmptyTextIsSaidInsteadOfALetter() {
        SwitchDesk x = new SwitchDesk();
        Check.write(x, "a");
        Check.only(x, SAY, 0, 2);
        Check.texts(x, "", "", 3);
        Check.only(x, UNDO, 0, 1);
        Check.texts(x, "", "a", 2);
    }

    @Says("SAY: THE TEXT is what was SAID, and is empty.")
    private static void promise07_oneLetterIsSaidBehindAnEmptyText() {
        SwitchDesk x = new SwitchDesk();
        Check.only(x, SAY, 0, 1);
        Check.write(x, "a");
        Check.only(x, SAY, 0, 1);
        Check.texts(x, "", "a", 3);
        Check.only(x, UNDO, 0, 1);
        Check.texts(x, "a", "", 2);
    }

    @Says("SAY: THE TEXT is what was SAID, and is empty.")
    private static void promise07_theSameTextSaidAgainIsAnAct() {
        SwitchDesk x = new SwitchDesk();
        Check.write(x, "a");
        Check.only(x, SAY, 0, 1);
        Check.write(x, "a");
        Check.only(x, SAY, 0, 1);
        Check.texts(x, "", "a", 4);
        Check.only(x, UNDO, 0, 1);
        Check.texts(x, "a", "a", 3);
    }

    // ---- UNDO

    @Says("UNDO: the latest act that changed THE TEXT or what was SAID, and was not taken back, is taken back (the latest 100).")
    private static void promise07_undoWithoutActs() {
        SwitchDesk x = new SwitchDesk();
        x.node(0, UNDO, 0);
        Check.due("press()", x.press(), 1);
        Check.texts(x, "", "none", 0);
        Check.due("it counted", x.state(6), 1);
    }

    @Says("UNDO: the latest act that changed THE TEXT or what was SAID, and was not taken back, is taken back (the latest 100).")
    private static void promise07_eachKindOfActIsTakenBack() {
        SwitchDesk x = new SwitchDesk();
        Check.word(x, "abba", 1);
        Check.write(x, "a");
        Check.only(x, SAY, 0, 1);
        Check.write(x, "a");
        Check.only(x, FORESEEN, 0, 1);
        Check.only(x, SAY, 0, 1);
        Check.write(x, "c");
        Check.only(x, BACK, 0, 1);
        Check.texts(x, "", "abba ", 7);
        String[] texts = {"c", "", "abba ", "a", "", "a", "", ""};
        String[] saids = {"abba ", "abba ", "a", "a", "a", "none", "none", "none"};
        x.clear();
        x.node(0, UNDO, 0);
        for (int i = 0; i < texts.length; i++) {
            x.press();
            Check.texts(x, texts[i], saids[i], Math.max(0, 6 - i));
        }
    }

    @Says("and was not taken back, is taken back (the latest 100)")
    private static void promise07_whatWasTakenBackIsNotTakenBackAgain() {
        SwitchDesk x = new SwitchDesk();
        Check.write(x, "ab");
        Check.only(x, UNDO, 0, 1);
        Check.texts(x, "a", "none", 1);
        Check.write(x, "c");
        Check.texts(x, "ac", "none", 2);
        Check.only(x, UNDO, 0, 1);
        Check.texts(x, "a", "none", 1);
        x.press();
        Check.texts(x, "", "none", 0);
    }

    @Says("(the latest 100)")
    private static void promise07_aHundredActsAreTakenBack() {
        SwitchDesk x = new SwitchDesk();
        Check.only(x, LETTER, 'a', 100);
        Check.due("acts", x.state(7), 100);
        Check.only(x, UNDO, 0, 100);
        Check.texts(x, "", "none", 0);
    }

    @Says("(the latest 100)")
    private static void promise07_the101stActBackStays() {
        SwitchDesk x = new SwitchDesk();
        Check.write(x, "b");
        Check.only(x, LETTER, 'a', 100);
        Check.due("acts", x.state(7), 100);
        Check.only(x, UNDO, 0, 100);
        Check.texts(x, "b", "none", 0);
        x.press();
        Check.texts(x, "b", "none", 0);
    }

    @Says("(the latest 100)")
    private static void promise07_twoHundredActsAndSomeTakenBackBetween() {
        SwitchDesk x = new SwitchDesk();
        Check.only(x, LETTER, 'a', 150);
        Check.only(x, UNDO, 0, 30);
        Check.due("acts left", x.state(7), 70);
        Check.only(x, LETTER, 'b', 20);
        Check.due("acts with new ones", x.state(7), 90);
        Check.only(x, BACK, 0, 20);
        Check.due("acts, full again", x.state(7), 100);
        Check.due("length(0)", x.length(0), 120);
        Check.only(x, UNDO, 0, 20);
        Check.due("BACKS taken back", x.length(0), 140);
        Check.due("at(0, 139)", Check.at(x, 0, 139), 'b');
        Check.presses(x, 80);
        Check.due("all taken back", x.length(0), 60);
        Check.due("acts", x.state(7), 0);
    }

    @Says("every act taken back exactly")
    private static void promise07_undoLeavesTheRestOfTheDesk() {
        SwitchDesk x = Check.desk("a");
        x.node(0, UNDO, 0);
        x.press();
        x.tick(5);
        Check.due("UNDO", x.press(), 2);
        Check.states(x, 5, 0, 1, -1, 5, 0, 2, 0);
        Check.due("length(0)", x.length(0), 0);
    }

    // ---- FORESEEN

    @Says("FORESEEN k: the k-th word foreseen, behind what is written of it, and 32")
    private static void promise07_foreseenBehindWhatIsWritten() {
        SwitchDesk x = new SwitchDesk();
        Check.word(x, "abc", 1);
        Check.write(x, "x ab");
        Check.only(x, FORESEEN, 0, 1);
        Check.texts(x, "x abc ", "none", 5);
    }

    @Says("FORESEEN k: the k-th word foreseen, behind what is written of it, and 32")
    private static void promise07_foreseenBehindNothingWritten() {
        SwitchDesk x = new SwitchDesk();
        Check.word(x, "abc", 1);
        Check.word(x, "d", 2);
        Check.only(x, FORESEEN, 0, 1);
        Check.only(x, FORESEEN, 1, 1);
        Check.texts(x, "d abc ", "none", 2);
    }

    @Says("FORESEEN k: the k-th word foreseen, behind what is written of it, and 32")
    private static void promise07_theFirstAndTheFifthForeseen() {
        SwitchDesk x = new SwitchDesk();
        for (int i = 0; i < 6; i++) {
            Check.word(x, "a" + (char) ('p' + i), i);
        }
        Check.write(x, "a");
        Check.only(x, FORESEEN, 0, 1);
        Check.due("the greatest count", Check.text(x, 0), "au ");
        Check.write(x, "a");
        Check.only(x, FORESEEN, 4, 1);
        Check.due("the fifth", Check.text(x, 0), "au aq ");
    }

    @Says("(both not, if there is none such, or it would be too long)")
    private static void promise07_noneSuchForeseen() {
        SwitchDesk x = new SwitchDesk();
        Check.only(x, FORESEEN, 0, 1);
        Check.texts(x, "", "none", 0);
        Check.word(x, "abc", 1);
        Check.only(x, FORESEEN, 1, 1);
        Check.texts(x, "", "none", 0);
        Check.write(x, "abc");
        Check.only(x, FORESEEN, 0, 1);
        Check.texts(x, "abc", "none", 3);
        Check.due("the presses counted", x.state(6), 6);
    }

    @Says("(both not, if there is none such, or it would be too long)")
    private static void promise07_foreseenThatJustFits() {
        SwitchDesk x = spaces(196);
        Check.word(x, "abc", 1);
        Check.only(x, FORESEEN, 0, 1);
        Check.due("length(0)", x.length(0), 200);
        Check.due("at(0, 198)", Check.at(x, 0, 198), 'c');
        Check.due("at(0, 199)", Check.at(x, 0, 199), SPACE);
        Check.only(x, UNDO, 0, 1);
        Check.due("taken back whole", x.length(0), 196);
    }

    @Says("(both not, if there is none such, or it would be too long)")
    private static void promise07_foreseenThatIsTooLongByIts32() {
        SwitchDesk x = spaces(197);
        Check.word(x, "abc", 1);
        Check.only(x, UNDO, 0, 1);
        Check.write(x, " ");
        Check.only(x, FORESEEN, 0, 1);
        Check.due("length(0)", x.length(0), 197);
        Check.due("no act", x.state(7), 100);
        Check.only(x, UNDO, 0, 1);
        Check.due("the letter goes", x.length(0), 196);
    }

    @Says("(both not, if there is none such, or it would be too long)")
    private static void promise07_whatIsWrittenOfItIsNotCountedTwice() {
        SwitchDesk x = spaces(188);
        Check.word(x, "abcdefghijk", 1);
        Check.write(x, "abcdefghij");
        Check.only(x, FORESEEN, 0, 1);
        Check.due("length(0)", x.length(0), 200);
        Check.due("at(0, 198)", Check.at(x, 0, 198), 'k');
    }

    // ---- OFFERED

    /** A tray (ab) with words ab, bb .. that slips lead to; the text is as told. */
    private static SwitchDesk slips(String text, String... words) {
        SwitchDesk x = new SwitchDesk();
        for (int i = 0; i < words.length; i++) {
            Check.word(x, words[i], 10 - i);
        }
        Check.write(x, text);
        x.clear();
        Check.letters(x, 0, "ab");
        return x;
    }

    private static void takeOffered(SwitchDesk x, int k) {
        int key = x.node(0, OFFERED, k);
        Check.due("the key is taken", Check.take(x, key), key);
    }

    @Says("OFFERED k: the k-th word offered instead of WRITTEN")
    private static void promise07_offeredInsteadOfWritten() {
        SwitchDesk x = slips("b aa", "ab", "bb");
        takeOffered(x, 0);
        Check.texts(x, "b ab", "none", 5);
    }

    @Says("OFFERED k: the k-th word offered instead of WRITTEN")
    private static void promise07_theFifthOffered() {
        SwitchDesk x = slips("aaaaaa", "aaaaab", "aaaaba", "aaabaa", "aabaaa", "abaaaa", "baaaaa");
        takeOffered(x, 4);
        Check.texts(x, "abaaaa", "none", 7);
    }

    @Says("(both not, if there is none such, or it would be too long)")
    private static void promise07_noneSuchOffered() {
        SwitchDesk x = slips("aa", "ab", "bb");
        takeOffered(x, 2);
        Check.texts(x, "aa", "none", 2);
        SwitchDesk y = slips("a ", "ab");
        takeOffered(y, 0);
        Check.texts(y, "a ", "none", 2);
        SwitchDesk z = slips("ab", "ab", "bb");
        takeOffered(z, 0);
        Check.texts(z, "ab", "none", 2);
    }

    @Says("slips by a neighbour's light read and offered but never put in unasked")
    private static void promise07_foreseenWithoutSuchAWordOffersNone() {
        SwitchDesk x = slips("aa", "ab", "bb");
        int key = x.node(0, FORESEEN, 0);
        Check.due("offered", Check.offered(x), "0 1");
        Check.due("FORESEEN", Check.take(x, key), key);
        Check.texts(x, "aa", "none", 2);
    }

    @Says("OFFERED k: the k-th word offered instead of WRITTEN")
    private static void promise07_offeredAtTheEndOfAFullText() {
        SwitchDesk x = spaces(198);
        Check.word(x, "ab", 1);
        Check.write(x, "aa");
        x.clear();
        Check.letters(x, 0, "ab");
        takeOffered(x, 0);
        Check.due("length(0)", x.length(0), 200);
        Check.due("at(0, 198)", Check.at(x, 0, 198), 'a');
        Check.due("at(0, 199)", Check.at(x, 0, 199), 'b');
    }

    @Says("slips by a neighbour's light read and offered but never put in unasked")
    private static void promise07_offeredWordsComeByTheirKeyAlone() {
        SwitchDesk x = slips("aa", "ab", "bb");
        x.node(0, LETTER, SPACE);
        x.node(0, SAY, 0);
        Check.due("offered", Check.offered(x), "0 1");
        Check.take(x, 3);
        Check.due("text", Check.text(x, 0), "aa ");
        Check.take(x, 4);
        Check.due("said", Check.text(x, 1), "aa ");
    }
}
