/** Promises 13 and 14: word and letter. */
public final class BookTest {
    private static final int[] FAR = {Check.MIN, Check.MIN + 1, -40, -2, 40, 41, 480, Check.MAX - 1, Check.MAX};

    public static void main(String[] args) {
        Check.run(BookTest.class);
    }

    private static SwitchDesk forty() {
        SwitchDesk x = new SwitchDesk();
        for (int i = 0; i < 40; i++) {
            Check.due("word " + i, Check.word(x, fortieth(i), 5), i);
        }
        return x;
    }

    private static String fortieth(int i) {
        return "abcdefghij" + (char) ('a' + i / 26) + (char) ('a' + i % 26);
    }

    // ---- 13: word

    @Says("The TAPE (empty then) is a WORD with a count: its number")
    private static void promise13_wordsAreNumberedFrom0() {
        SwitchDesk x = new SwitchDesk();
        Check.due("the first", Check.word(x, "ab", 1), 0);
        Check.due("the second", Check.word(x, "b", 1), 1);
        Check.due("words", Check.spelled(x, 0) + " " + Check.spelled(x, 1), "ab b");
    }

    @Says("The TAPE (empty then) is a WORD with a count: its number")
    private static void promise13_theTapeIsEmptyThen() {
        SwitchDesk x = new SwitchDesk();
        Check.word(x, "ab", 1);
        Check.due("behind a new one", x.count(2), 0);
        Check.word(x, "ab", 2);
        Check.due("behind one that was there", x.count(2), 0);
        Check.due("no word twice", x.word(1), -1);
    }

    @Says("NONE: not 1 .. 12 letters, count, there are 40.")
    private static void promise13_anEmptyTapeIsNoWord() {
        SwitchDesk x = new SwitchDesk();
        Check.due("word", x.word(1), -1);
        Check.due("count(1)", x.count(1), 0);
    }

    @Says("1 .. 12 letters a .. z")
    private static void promise13_oneAndTwelveLettersAreAWord() {
        SwitchDesk x = new SwitchDesk();
        Check.due("one", Check.word(x, "a", 1), 0);
        Check.due("twelve", Check.word(x, "abcdefghijkl", 1), 1);
        Check.due("words", Check.spelled(x, 0) + " " + Check.spelled(x, 1), "a abcdefghijkl");
    }

    @Says("1 .. 12 letters a .. z")
    private static void promise13_thirteenLettersAreNoWord() {
        SwitchDesk x = new SwitchDesk();
        Check.due("thirteen", Check.word(x, "abcdefghijklm", 1), -1);
        Check.due("the tape stays", x.count(2), 13);
        Check.due("26", Check.word(x, "nopqrstuvwxyz", 1), -1);
        Check.due("count(1)", x.count(1), 0);
        x.end(12);
        Check.due("twelve of them", x.word(1), 0);
    }

    @Says("1 .. 12 letters a .. z")
    private static void promise13_otherBytesMakeNoWord() {
        int[] others = {96, 123, 'A', 'Z', 32, 1, 127, 128, 'a' + 128, 255};
        for (int other : others) {
            for (int place = 0; place < 3; place++) {
                SwitchDesk x = new SwitchDesk();
                x.feed((0x61626300 & ~(255 << 24 - 8 * place)) | other << 24 - 8 * place, 0);
                Check.due("byte " + other + " at " + place, x.word(1), -1);
                Check.due("the tape stays", x.count(2), 3);
                Check.due("count(1)", x.count(1), 0);
            }
        }
    }

    @Says("1 .. 12 letters a .. z")
    private static void promise13_aAndZAreLetters() {
        SwitchDesk x = new SwitchDesk();
        Check.due("az", Check.word(x, "az", 1), 0);
        Check.due("za", Check.word(x, "za", 1), 1);
    }

    @Says("with counts (0 .. 10,000)")
    private static void promise13_countsOf0And10000AreTaken() {
        SwitchDesk x = new SwitchDesk();
        Check.due("0", Check.word(x, "a", 0), 0);
        Check.due("10000", Check.word(x, "b", 10000), 1);
        Check.due("9999", Check.word(x, "c", 9999), 2);
        Check.due("foreseen", Check.foreseen(x), "1 2 0");
    }

    @Says("with counts (0 .. 10,000)")
    private static void promise13_aCountBelow0IsRefused() {
        SwitchDesk x = new SwitchDesk();
        Check.due("-1", Check.word(x, "a", -1), -1);
        Check.due("min", x.word(Check.MIN), -1);
        Check.due("the tape stays", x.count(2), 1);
        Check.due("count(1)", x.count(1), 0);
    }

    @Says("with counts (0 .. 10,000)")
    private static void promise13_aCountAbove10000IsRefused() {
        SwitchDesk x = new SwitchDesk();
        Check.due("10001", Check.word(x, "a", 10001), -1);
        Check.due("max", x.word(Check.MAX), -1);
        Check.due("the tape stays", x.count(2), 1);
        Check.due("count(1)", x.count(1), 0);
    }

    @Says("one that is there: it has that count")
    private static void promise13_aWordThatIsThereHasTheNewCount() {
        SwitchDesk x = new SwitchDesk();
        Check.word(x, "ab", 5);
        Check.word(x, "cd", 5);
        Check.word(x, "abc", 5);
        Check.due("foreseen", Check.foreseen(x), "0 1 2");
        Check.due("cd again", Check.word(x, "cd", 6), 1);
        Check.due("foreseen", Check.foreseen(x), "1 0 2");
        Check.due("cd again", Check.word(x, "cd", 0), 1);
        Check.due("foreseen", Check.foreseen(x), "0 2 1");
        Check.due("count(1)", x.count(1), 3);
    }

    @Says("one that is there: it has that count")
    private static void promise13_aWrongCountLeavesTheWordsOwn() {
        SwitchDesk x = new SwitchDesk();
        Check.word(x, "ab", 5);
        Check.word(x, "cd", 5);
        Check.due("cd with 10001", Check.word(x, "cd", 10001), -1);
        Check.due("cd with -1", x.word(-1), -1);
        Check.due("foreseen", Check.foreseen(x), "0 1");
        Check.due("the tape stays", x.count(2), 2);
    }

    @Says("no two alike")
    private static void promise13_beginningsAndLongerOnesAreOtherWords() {
        SwitchDesk x = new SwitchDesk();
        Check.due("ab", Check.word(x, "ab", 1), 0);
        Check.due("a", Check.word(x, "a", 1), 1);
        Check.due("abc", Check.word(x, "abc", 1), 2);
        Check.due("bb", Check.word(x, "bb", 1), 3);
        Check.due("aa", Check.word(x, "aa", 1), 4);
        Check.due("abc again", Check.word(x, "abc", 1), 2);
        Check.due("a again", Check.word(x, "a", 1), 1);
    }

    @Says("THE BOOK has WORDS (40 at most;")
    private static void promise13_fortyWordsFit() {
        SwitchDesk x = forty();
        Check.due("count(1)", x.count(1), 40);
        for (int i = 0; i < 40; i++) {
            Check.due("word " + i, Check.spelled(x, i), fortieth(i));
        }
    }

    @Says("there are 40.")
    private static void promise13_theFortyFirstWordIsRefused() {
        SwitchDesk x = forty();
        Check.due("another", Check.word(x, "z", 1), -1);
        Check.due("the tape stays", x.count(2), 1);
        Check.due("count(1)", x.count(1), 40);
        Check.due("letter(40, 0)", Check.letter(x, 40, 0), Check.NO_SUCH);
    }

    @Says("one that is there: it has that count")
    private static void promise13_aWordThatIsThereIsTakenWhenThereAre40() {
        SwitchDesk x = forty();
        Check.due("the last", Check.word(x, fortieth(39), 9), 39);
        Check.due("the first", Check.word(x, fortieth(0), 8), 0);
        Check.due("the tape is empty", x.count(2), 0);
        Check.due("foreseen(0)", x.foreseen(0), 39);
        Check.due("foreseen(1)", x.foreseen(1), 0);
    }

    // ---- 14: letter

    @Says("Letter i of WORD w.")
    private static void promise14_theFirstAndTheLastLetter() {
        SwitchDesk x = new SwitchDesk();
        Check.word(x, "q", 1);
        Check.word(x, "abcdefghijkl", 1);
        Check.due("letter(0, 0)", Check.letter(x, 0, 0), 'q');
        Check.due("letter(1, 0)", Check.letter(x, 1, 0), 'a');
        Check.due("letter(1, 11)", Check.letter(x, 1, 11), 'l');
    }

    @Says("NoSuchElementException: there is none such.")
    private static void promise14_noLetterBehindTheLast() {
        SwitchDesk x = new SwitchDesk();
        Check.word(x, "q", 1);
        Check.word(x, "abcdefghijkl", 1);
        Check.word(x, "rs", 1);
        Check.due("letter(0, 1)", Check.letter(x, 0, 1), Check.NO_SUCH);
        Check.due("letter(1, 12)", Check.letter(x, 1, 12), Check.NO_SUCH);
        Check.due("letter(2, 2)", Check.letter(x, 2, 2), Check.NO_SUCH);
        for (int i : FAR) {
            Check.due("letter(1, " + i + ")", Check.letter(x, 1, i), Check.NO_SUCH);
        }
    }

    @Says("NoSuchElementException: there is none such.")
    private static void promise14_noLetterBefore0() {
        SwitchDesk x = forty();
        for (int w = 0; w < 40; w++) {
            Check.due("letter(" + w + ", -1)", Check.letter(x, w, -1), Check.NO_SUCH);
            Check.due("letter(" + w + ", min)", Check.letter(x, w, Check.MIN), Check.NO_SUCH);
        }
    }

    @Says("NoSuchElementException: there is none such.")
    private static void promise14_noWordBefore0OrBehindTheLast() {
        SwitchDesk x = new SwitchDesk();
        Check.due("of an empty book", Check.letter(x, 0, 0), Check.NO_SUCH);
        Check.word(x, "ab", 1);
        Check.due("letter(-1, 0)", Check.letter(x, -1, 0), Check.NO_SUCH);
        Check.due("letter(1, 0)", Check.letter(x, 1, 0), Check.NO_SUCH);
        for (int w : FAR) {
            Check.due("letter(" + w + ", 0)", Check.letter(x, w, 0), Check.NO_SUCH);
        }
    }

    @Says("NoSuchElementException: there is none such.")
    private static void promise14_theLastLetterOfAFullBook() {
        SwitchDesk x = forty();
        Check.due("letter(39, 11)", Check.letter(x, 39, 11), 'n');
        Check.due("letter(39, 12)", Check.letter(x, 39, 12), Check.NO_SUCH);
        Check.due("letter(40, 0)", Check.letter(x, 40, 0), Check.NO_SUCH);
    }
}
