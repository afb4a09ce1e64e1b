/** Promises 15 to 17: foreseen, offered, near; and what the terms say of WRITTEN and NEIGHBOURS. */
public final class GuessTest {
    private static final int[] FAR = {Check.MIN, Check.MIN + 1, -40, -2, 40, 41, Check.MAX - 1, Check.MAX};

    public static void main(String[] args) {
        Check.run(GuessTest.class);
    }

    private static SwitchDesk book(String... words) {
        SwitchDesk x = new SwitchDesk();
        for (String word : words) {
            Check.word(x, word, 5);
        }
        return x;
    }

    /** Writes, and has a tray of these letters then. */
    private static void written(SwitchDesk x, String text, String tray) {
        Check.write(x, text);
        x.clear();
        Check.letters(x, 0, tray);
    }

    // ---- 15: foreseen

    @Says("FORESEEN are the WORDS that begin with WRITTEN and are longer")
    private static void promise15_allWordsWhenNothingIsWritten() {
        SwitchDesk x = book("ab", "b", "zz");
        Check.due("foreseen", Check.foreseen(x), "0 1 2");
        Check.write(x, "ab ");
        Check.due("behind 32", Check.foreseen(x), "0 1 2");
    }

    @Says("FORESEEN are the WORDS that begin with WRITTEN and are longer")
    private static void promise15_whatIsJustWrittenIsNotForeseen() {
        SwitchDesk x = book("ab", "abc", "a", "ba", "abcd");
        Check.write(x, "ab");
        Check.due("ab", Check.foreseen(x), "1 4");
        Check.write(x, "cd");
        Check.due("abcd", Check.foreseen(x), "");
    }

    @Says("FORESEEN are the WORDS that begin with WRITTEN and are longer")
    private static void promise15_everyLetterOfWrittenIsAsked() {
        SwitchDesk x = book("abx", "aby", "xby", "axy");
        Check.write(x, "a");
        Check.due("a", Check.foreseen(x), "0 1 3");
        Check.write(x, "b");
        Check.due("ab", Check.foreseen(x), "0 1");
    }

    @Says("by counts, the greatest first, of alike ones as told")
    private static void promise15_theGreatestCountFirst() {
        SwitchDesk x = new SwitchDesk();
        Check.word(x, "a", 0);
        Check.word(x, "b", 10000);
        Check.word(x, "c", 1);
        Check.word(x, "d", 9999);
        Check.due("foreseen", Check.foreseen(x), "1 3 2 0");
    }

    @Says("by counts, the greatest first, of alike ones as told")
    private static void promise15_alikeCountsAsTold() {
        SwitchDesk x = new SwitchDesk();
        Check.word(x, "z", 4);
        Check.word(x, "y", 5);
        Check.word(x, "abc", 4);
        Check.word(x, "a", 5);
        Check.word(x, "m", 4);
        Check.due("foreseen", Check.foreseen(x), "1 3 0 2 4");
        Check.word(x, "z", 5);
        Check.due("as told first, not last", Check.foreseen(x), "0 1 3 2 4");
    }

    @Says("The k-th FORESEEN (from 0 on). NONE without.")
    private static void promise15_noneBefore0AndBehindTheLast() {
        SwitchDesk x = book("ab", "cd");
        Check.due("foreseen(0)", x.foreseen(0), 0);
        Check.due("foreseen(1)", x.foreseen(1), 1);
        Check.due("foreseen(2)", x.foreseen(2), -1);
        Check.due("foreseen(-1)", x.foreseen(-1), -1);
        for (int k : FAR) {
            Check.due("foreseen(" + k + ")", x.foreseen(k), -1);
        }
    }

    @Says("NONE without.")
    private static void promise15_noneOfAnEmptyBook() {
        SwitchDesk x = new SwitchDesk();
        Check.due("foreseen(0)", x.foreseen(0), -1);
        Check.due("count(4)", x.count(4), 0);
    }

    @Says("The k-th FORESEEN (from 0 on).")
    private static void promise15_allFortyAreForeseen() {
        SwitchDesk x = new SwitchDesk();
        for (int i = 0; i < 40; i++) {
            Check.word(x, "" + (char) ('a' + i / 26) + (char) ('a' + i % 26), i);
        }
        for (int k = 0; k < 40; k++) {
            Check.due("foreseen(" + k + ")", x.foreseen(k), 39 - k);
        }
        Check.due("foreseen(40)", x.foreseen(40), -1);
        Check.due("count(4)", x.count(4), 40);
    }

    @Says("WRITTEN is the longest row of letters a .. z at the end of THE TEXT.")
    private static void promise15_elevenTwelveAndThirteenLettersWritten() {
        SwitchDesk x = book("aaaaaaaaaaaa", "aaaaaaaaaaab");
        Check.only(x, 1, 'a', 11);
        Check.due("eleven", Check.foreseen(x), "0 1");
        x.press();
        Check.due("twelve", Check.foreseen(x), "");
        x.press();
        Check.due("thirteen", Check.foreseen(x), "");
        Check.only(x, 1, 'a', 187);
        Check.due("200", Check.foreseen(x), "");
        Check.due("count(3)", x.count(3), 200);
    }

    @Says("WRITTEN is the longest row of letters a .. z at the end of THE TEXT.")
    private static void promise15_writtenBeginsBehindTheLast32() {
        SwitchDesk x = book("ba", "aba", "ca");
        Check.write(x, "a b");
        Check.due("foreseen", Check.foreseen(x), "0");
        Check.due("count(3)", x.count(3), 1);
    }

    @Says("WRITTEN is the longest row of letters a .. z at the end of THE TEXT.")
    private static void promise15_writtenFollowsBackSayAndUndo() {
        SwitchDesk x = book("ab", "b");
        Check.write(x, "a ");
        Check.due("behind 32", Check.foreseen(x), "0 1");
        Check.only(x, 2, 0, 1);
        Check.due("behind BACK", Check.foreseen(x), "0");
        Check.only(x, 5, 0, 1);
        Check.due("behind SAY", Check.foreseen(x), "0 1");
        Check.only(x, 3, 0, 1);
        Check.due("behind UNDO", Check.foreseen(x), "0");
    }

    // ---- 16: offered

    @Says("if WRITTEN is no WORD and is not empty")
    private static void promise16_noneWhenNothingIsWritten() {
        SwitchDesk x = book("a", "b");
        written(x, "", "ab");
        Check.due("an empty text", Check.offered(x), "");
        written(x, "c ", "abc");
        Check.due("behind 32", Check.offered(x), "");
        Check.due("count(5)", x.count(5), 0);
    }

    @Says("if WRITTEN is no WORD and is not empty")
    private static void promise16_noneWhenWrittenIsAWord() {
        SwitchDesk x = book("ab", "bb");
        written(x, "aa", "ab");
        Check.due("aa", Check.offered(x), "0 1");
        Check.word(x, "aa", 0);
        Check.due("aa is a word now", Check.offered(x), "");
    }

    @Says("if WRITTEN is no WORD and is not empty")
    private static void promise16_noneWhenWrittenIsAWordOfTwelveLetters() {
        SwitchDesk x = book("aaaaaaaaaaab", "aaaaaaaaaaaa");
        Check.only(x, 1, 'a', 12);
        written(x, "", "ab");
        Check.due("count(3)", x.count(3), 12);
        Check.due("offered", Check.offered(x), "");
    }

    @Says("the WORDS as long as it")
    private static void promise16_shorterWrittenBehindLonger() {
        SwitchDesk x = book("ab", "bbbb");
        written(x, "aabb", "ab");
        Check.due("aabb", Check.offered(x), "1");
        Check.only(x, 2, 0, 2);
        written(x, "", "ab");
        Check.due("aa", Check.offered(x), "0");
        Check.due("foreseen", Check.foreseen(x), "");
        Check.only(x, 2, 0, 1);
        Check.due("a", Check.foreseen(x), "0");
    }

    @Says("the WORDS as long as it")
    private static void promise16_oneLetterWritten() {
        SwitchDesk x = book("b", "c", "ab");
        written(x, "a", "ab");
        Check.due("offered", Check.offered(x), "0");
    }

    @Says("the WORDS as long as it")
    private static void promise16_shorterAndLongerWordsAreNotOffered() {
        SwitchDesk x = book("b", "bb", "bbb", "a");
        written(x, "ab", "ab");
        Check.due("offered", Check.offered(x), "1");
    }

    @Says("unlike it in at most two places")
    private static void promise16_twoPlacesAreOfferedAndThreeNot() {
        SwitchDesk x = book("aabb", "abbb", "bbbb", "aaab");
        written(x, "aaaa", "ab");
        Check.due("offered", Check.offered(x), "3 0");
    }

    @Says("unlike it in at most two places")
    private static void promise16_theFirstAndTheLastPlace() {
        SwitchDesk x = book("baaaaaaaaaab");
        written(x, "aaaaaaaaaaaa", "ab");
        Check.due("offered", Check.offered(x), "0");
    }

    @Says("where both LETTERS are NEIGHBOURS")
    private static void promise16_everyPlaceIsByNeighbours() {
        SwitchDesk x = book("ba", "ca", "bc", "cb", "cc", "bb");
        written(x, "aa", "abc");
        Check.due("c is no neighbour of a", Check.offered(x), "0 5");
    }

    @Says("where both LETTERS are NEIGHBOURS")
    private static void promise16_neighboursAreThoseOfTheTrayNow() {
        SwitchDesk x = book("ba", "ca");
        written(x, "aa", "");
        Check.due("no keys", Check.offered(x), "");
        Check.letters(x, 0, "ca");
        Check.due("c and a", Check.offered(x), "1");
        Check.letters(x, 0, "b");
        Check.due("c, a and b", Check.offered(x), "0 1");
        x.clear();
        Check.due("cleared", Check.offered(x), "");
    }

    @Says("those with fewer such places first, then by counts, then as told")
    private static void promise16_fewerPlacesGoBeforeCounts() {
        SwitchDesk x = new SwitchDesk();
        Check.word(x, "bb", 10000);
        Check.word(x, "ab", 0);
        written(x, "aa", "ab");
        Check.due("offered", Check.offered(x), "1 0");
    }

    @Says("those with fewer such places first, then by counts, then as told")
    private static void promise16_thenByCounts() {
        SwitchDesk x = new SwitchDesk();
        Check.word(x, "abb", 1);
        Check.word(x, "bab", 3);
        Check.word(x, "aab", 0);
        Check.word(x, "bba", 2);
        Check.word(x, "aba", 9);
        written(x, "aaa", "ab");
        Check.due("offered", Check.offered(x), "4 2 1 3 0");
    }

    @Says("those with fewer such places first, then by counts, then as told")
    private static void promise16_thenAsTold() {
        SwitchDesk x = book("bba", "baa", "abb", "aab", "bab", "aba");
        written(x, "aaa", "ab");
        Check.due("offered", Check.offered(x), "1 3 5 0 2 4");
    }

    @Says("The k-th OFFERED. NONE without.")
    private static void promise16_noneBefore0AndBehindTheLast() {
        SwitchDesk x = book("ab", "ba");
        written(x, "aa", "ab");
        Check.due("offered(0)", x.offered(0), 0);
        Check.due("offered(1)", x.offered(1), 1);
        Check.due("offered(2)", x.offered(2), -1);
        Check.due("offered(-1)", x.offered(-1), -1);
        for (int k : FAR) {
            Check.due("offered(" + k + ")", x.offered(k), -1);
        }
        Check.due("of an empty book", new SwitchDesk().offered(0), -1);
    }

    @Says("the WORDS as long as it")
    private static void promise16_twelveAndThirteenLettersWritten() {
        SwitchDesk x = book("abbbbbbbbbbb", "bbbbbbbbbbba");
        Check.only(x, 1, 'b', 12);
        written(x, "", "ab");
        Check.due("twelve", Check.offered(x), "0 1");
        Check.only(x, 1, 'b', 1);
        written(x, "", "ab");
        Check.due("thirteen", Check.offered(x), "");
        Check.only(x, 1, 'b', 187);
        written(x, "", "ab");
        Check.due("200", Check.offered(x), "");
    }

    @Says("The k-th OFFERED.")
    private static void promise16_allFortyAreOffered() {
        SwitchDesk x = new SwitchDesk();
        int told = 0;
        for (int i = 0; i < 12; i++) {
            for (int j = 0; j <= i && told < 40; j++) {
                StringBuilder s = new StringBuilder("aaaaaaaaaaaa");
                s.setCharAt(i, 'b');
                s.setCharAt(j, 'b');
                Check.due("word", Check.word(x, s.toString(), 7), told);
                told++;
            }
        }
        Check.only(x, 1, 'a', 12);
        written(x, "", "ab");
        Check.due("count(5)", x.count(5), 40);
        Check.due("offered(39)", x.offered(39) >= 0, true);
        Check.due("offered(40)", x.offered(40), -1);
    }

    // ---- 17: near

    @Says("NEIGHBOURS are two LETTERS if some LETTER KEY of the one stands right behind one of the other among the LIGHTS of a GROUP.")
    private static void promise17_rightBehindEitherWay() {
        SwitchDesk x = Check.desk("abc");
        int[][] due = {{0, 1, 0}, {1, 0, 1}, {0, 1, 0}};
        for (int i = 0; i < 3; i++) {
            for (int j = 0; j < 3; j++) {
                Check.due("near(" + (97 + i) + ", " + (97 + j) + ")", x.near(97 + i, 97 + j), due[i][j]);
            }
        }
    }

    @Says("stands right behind one of the other among the LIGHTS of a GROUP")
    private static void promise17_theLastAndTheFirstAreNoNeighbours() {
        SwitchDesk x = Check.desk("abc");
        Check.due("near(c, a)", x.near('c', 'a'), 0);
        Check.due("near(a, c)", x.near('a', 'c'), 0);
        SwitchDesk y = Check.desk(Check.ALPHABET);
        Check.due("near(z, a)", y.near('z', 'a'), 0);
        Check.due("near(z, y)", y.near('z', 'y'), 1);
    }

    @Says("if some LETTER KEY of the one stands right behind one of the other")
    private static void promise17_otherKeysStandBetween() {
        int[][] between = {{1, 32}, {2, 0}, {3, 0}, {4, 0}, {5, 0}, {6, 0}};
        for (int[] b : between) {
            SwitchDesk x = Check.desk("a");
            x.node(0, b[0], b[1]);
            x.node(0, 1, 'b');
            Check.due("over kind " + b[0], x.near('a', 'b'), 0);
        }
    }

    @Says("among the LIGHTS of a GROUP")
    private static void promise17_aGroupWithAKeyStandsBetweenAnEmptyOneNot() {
        SwitchDesk x = Check.desk("a");
        x.node(0, 0, 0);
        x.node(0, 1, 'b');
        Check.due("over an empty group", x.near('a', 'b'), 1);
        x.node(2, 0, 0);
        Check.due("over a group of an empty group", x.near('a', 'b'), 1);
        x.node(2, 5, 0);
        Check.due("over a group with a key", x.near('a', 'b'), 0);
    }

    @Says("among the LIGHTS of a GROUP")
    private static void promise17_keysOfTwoGroupsAreNoNeighbours() {
        SwitchDesk x = new SwitchDesk();
        x.node(0, 0, 0);
        x.node(0, 0, 0);
        Check.letters(x, 1, "ab");
        Check.letters(x, 2, "cd");
        x.node(0, 1, 'e');
        int[][] no = {{'b', 'c'}, {'d', 'e'}, {'b', 'e'}};
        for (int[] n : no) {
            Check.due("near(" + n[0] + ", " + n[1] + ")", x.near(n[0], n[1]), 0);
        }
        Check.due("near(a, b)", x.near('a', 'b'), 1);
        Check.due("near(d, c)", x.near('d', 'c'), 1);
    }

    @Says("if some LETTER KEY of the one stands right behind one of the other")
    private static void promise17_oneOfManyKeysIsEnough() {
        SwitchDesk x = Check.desk("axb");
        Check.due("near(a, b)", x.near('a', 'b'), 0);
        Check.letters(x, 0, "a");
        Check.due("near(a, b) with a second a", x.near('a', 'b'), 1);
        Check.due("near(b, x)", x.near('b', 'x'), 1);
    }

    @Says("if some LETTER KEY of the one stands right behind one of the other")
    private static void promise17_aLetterIsItsOwnNeighbourByTwoKeysAlone() {
        SwitchDesk x = Check.desk("abb");
        Check.due("near(a, a)", x.near('a', 'a'), 0);
        Check.due("near(b, b)", x.near('b', 'b'), 1);
    }

    @Says("Whether two LETTERS are NEIGHBOURS (1, 0).")
    private static void promise17_withoutKeysNoneAre() {
        SwitchDesk x = new SwitchDesk();
        Check.due("near(a, z)", x.near('a', 'z'), 0);
        Check.due("near(a, a)", x.near('a', 'a'), 0);
    }

    @Says("NONE: no letters a .. z.")
    private static void promise17_noneForOtherSigns() {
        SwitchDesk x = Check.desk("az");
        x.node(0, 1, 32);
        int[] others = {32, 31, 96, 123, 'A', 'Z', 0, -1, 97 + 256, Check.MIN, Check.MAX};
        for (int other : others) {
            Check.due("near(97, " + other + ")", x.near(97, other), -1);
            Check.due("near(" + other + ", 122)", x.near(other, 122), -1);
            Check.due("near(" + other + ", same)", x.near(other, other), -1);
        }
        Check.due("near(97, 122)", x.near(97, 122), 1);
        Check.due("near(122, 97)", x.near(122, 97), 1);
    }
}
