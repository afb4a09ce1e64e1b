/** Promises 11 to 17 and 22: feed, end, word, letter, foreseen, offered, near, count. */
public final class BookTest {
    public static void main(String[] args) {
        tape();
        words();
        wrongWords();
        fortyWords();
        foreseen();
        offered();
        offeredOrder();
        near();
        counts();
        longWritten();
        twelveOffered();
        fortyLongWords();
        Check.close();
    }

    private static void tape() {
        SwitchDesk x = new SwitchDesk();
        Check.due("feed(0, 0)", x.feed(0, 0), 0);
        Check.due("highest first", x.feed(0x61626364, 0x65666768), 8);
        Check.due("count(2)", x.count(2), 8);
        x.word(0);
        for (int i = 0; i < 8; i++) {
            Check.due("letter " + i, Check.letter(x, 0, i), 97 + i);
        }
        Check.due("zeros are left out", x.feed(0x00780079, 0x7a000000), 3);
        x.word(0);
        Check.due("x", Check.letter(x, 1, 0), 'x');
        Check.due("y", Check.letter(x, 1, 1), 'y');
        Check.due("z", Check.letter(x, 1, 2), 'z');
        Check.due("any bytes", x.feed(-1, 0x80000001), 6);
        Check.due("to 14", x.feed(-1, -1), 14);
        Check.due("to 22", x.feed(-1, -1), 22);
        Check.due("27 are too many", x.feed(-1, 0x61000000), -1);
        Check.due("still 22", x.count(2), 22);
        Check.due("26 are not", x.feed(0x61616161, 0), 26);
        Check.due("nothing more", x.feed(0, 0), 26);
        Check.due("27", x.feed(0, 1), -1);
        Check.due("end(27)", x.end(27), false);
        Check.due("end(-1)", x.end(-1), false);
        Check.due("end(min)", x.end(1 << 31), false);
        Check.due("end(26)", x.end(26), true);
        Check.due("end(2)", x.end(2), true);
        Check.due("end(3)", x.end(3), false);
        Check.due("two", x.count(2), 2);
        Check.due("end(0)", x.end(0), true);
        Check.due("none", x.count(2), 0);
    }

    private static void words() {
        SwitchDesk x = new SwitchDesk();
        Check.due("ab", Check.word(x, "ab", 5), 0);
        Check.due("the tape is empty then", x.count(2), 0);
        Check.due("abc", Check.word(x, "abc", 5), 1);
        Check.due("a", Check.word(x, "a", 6), 2);
        Check.due("twelve", Check.word(x, "abcdefghijkl", 10000), 3);
        Check.due("foreseen", x.foreseen(0), 3);
        Check.due("ab again", Check.word(x, "ab", 10000), 0);
        Check.due("the tape is empty again", x.count(2), 0);
        Check.due("no new one", x.count(1), 4);
        Check.due("its count is new", x.foreseen(0), 0);
        Check.due("letter(3, 11)", Check.letter(x, 3, 11), 'l');
        int[][] wrong = {{3, 12}, {0, 2}, {0, -1}, {4, 0}, {-1, 0}, {1 << 31, 0}, {0, 2147483647}, {40, 0}};
        for (int[] w : wrong) {
            Check.due("letter " + w[0] + " " + w[1], Check.letter(x, w[0], w[1]), Check.NO_SUCH);
        }
    }

    private static void wrongWords() {
        SwitchDesk x = new SwitchDesk();
        Check.due("empty", x.word(1), -1);
        Check.feed(x, "abc");
        Check.due("count -1", x.word(-1), -1);
        Check.due("count 10001", x.word(10001), -1);
        Check.due("count min", x.word(1 << 31), -1);
        Check.due("the tape stays", x.count(2), 3);
        Check.feed(x, "d e");
        Check.due("no letter", x.word(1), -1);
        x.end(3);
        Check.feed(x, "A");
        Check.due("a great letter", x.word(1), -1);
        x.end(3);
        x.feed(0xe1000000, 0);
        Check.due("a high byte", x.word(1), -1);
        x.end(3);
        Check.feed(x, "{");
        Check.due("right behind z", x.word(1), -1);
        x.end(3);
        Check.feed(x, "`");
        Check.due("right before a", x.word(1), -1);
        x.end(3);
        Check.feed(x, "defghijklm");
        Check.due("thirteen", x.word(1), -1);
        Check.due("no word", x.count(1), 0);
        x.end(12);
        Check.due("twelve", x.word(0), 0);
    }

    private static void fortyWords() {
        SwitchDesk x = new SwitchDesk();
        for (int i = 0; i < 40; i++) {
            String letters = "" + (char) (97 + i / 26) + (char) (97 + i % 26);
            Check.due(letters, Check.word(x, letters, i), i);
        }
        Check.due("the 41st", Check.word(x, "zz", 1), -1);
        Check.due("its tape stays", x.count(2), 2);
        x.end(0);
        Check.due("one that is there", Check.word(x, "ac", 10000), 2);
        Check.due("foreseen(0)", x.foreseen(0), 2);
        Check.due("foreseen(1)", x.foreseen(1), 39);
        Check.due("foreseen(39)", x.foreseen(39), 0);
        Check.due("foreseen(40)", x.foreseen(40), -1);
        Check.due("count(4)", x.count(4), 40);
        Check.due("count(1)", x.count(1), 40);
    }

    private static void foreseen() {
        SwitchDesk x = new SwitchDesk();
        Check.letters(x, 0, "ab");
        x.node(0, 1, 32);
        Check.word(x, "ab", 5);
        Check.word(x, "abc", 5);
        Check.word(x, "ba", 9);
        Check.word(x, "abd", 7);
        Check.word(x, "abe", 5);
        order("empty", x, 2, 3, 0, 1, 4);
        Check.take(x, 1);
        order("a", x, 3, 0, 1, 4);
        Check.take(x, 2);
        order("ab: longer ones alone", x, 3, 1, 4);
        Check.take(x, 2);
        order("abb", x);
        Check.take(x, 3);
        order("behind 32", x, 2, 3, 0, 1, 4);
        Check.due("foreseen(-1)", x.foreseen(-1), -1);
        Check.due("foreseen(min)", x.foreseen(1 << 31), -1);
        Check.due("foreseen(max)", x.foreseen(2147483647), -1);
    }

    private static void order(String name, SwitchDesk x, int... want) {
        for (int i = 0; i < want.length; i++) {
            Check.due(name + " foreseen(" + i + ")", x.foreseen(i), want[i]);
        }
        Check.due(name + " foreseen(" + want.length + ")", x.foreseen(want.length), -1);
        Check.due(name + " count(4)", x.count(4), want.length);
    }

    private static void offers(String name, SwitchDesk x, int... want) {
        for (int i = 0; i < want.length; i++) {
            Check.due(name + " offered(" + i + ")", x.offered(i), want[i]);
        }
        Check.due(name + " offered(" + want.length + ")", x.offered(want.length), -1);
        Check.due(name + " count(5)", x.count(5), want.length);
    }

    private static void offered() {
        SwitchDesk x = new SwitchDesk();
        Check.letters(x, 0, "abcd");
        Check.word(x, "bbb", 1);
        Check.word(x, "bb", 1);
        Check.word(x, "cc", 1);
        Check.word(x, "da", 1);
        offers("empty", x);
        Check.take(x, 1);
        offers("a: none as long", x);
        Check.take(x, 1);
        offers("aa: bb with two, cc and da not by neighbours", x, 1);
        Check.take(x, 1);
        offers("aaa: three places are too many", x);
        Check.take(x, 1);
        offers("aaaa", x);
        SwitchDesk y = new SwitchDesk();
        Check.letters(y, 0, "ab");
        Check.word(y, "a", 1);
        Check.word(y, "b", 1);
        Check.take(y, 1);
        offers("a is a word", y);
        Check.due("offered(-1)", y.offered(-1), -1);
        Check.due("offered(min)", y.offered(1 << 31), -1);
    }

    private static void offeredOrder() {
        SwitchDesk x = new SwitchDesk();
        Check.letters(x, 0, "abc");
        Check.word(x, "aab", 10000);
        Check.word(x, "bba", 3);
        Check.word(x, "abb", 4);
        Check.word(x, "bbc", 3);
        Check.word(x, "cbb", 3);
        Check.word(x, "aba", 10000);
        for (int i = 0; i < 3; i++) {
            Check.take(x, 2);
        }
        offers("bbb", x, 2, 1, 3, 4, 0, 5);
        x.clear();
        offers("without keys", x);
        Check.letters(x, 0, "bc");
        offers("b and c alone are neighbours", x, 3, 4);
    }

    private static void near() {
        SwitchDesk x = new SwitchDesk();
        Check.letters(x, 0, "ab");
        x.node(0, 1, 32);
        Check.letters(x, 0, "cc");
        x.node(0, 0, 0);
        Check.letters(x, 6, "dz");
        x.node(0, 1, 'e');
        x.node(0, 2, 0);
        x.node(0, 1, 'f');
        int[][] yes = {{'a', 'b'}, {'c', 'c'}, {'d', 'z'}};
        for (int[] y : yes) {
            Check.due("near " + y[0] + " " + y[1], x.near(y[0], y[1]), 1);
            Check.due("near " + y[1] + " " + y[0], x.near(y[1], y[0]), 1);
        }
        int[][] no = {{'b', 'c'}, {'c', 'd'}, {'z', 'e'}, {'c', 'e'}, {'e', 'f'}, {'a', 'f'}, {'a', 'a'}, {'x', 'y'}};
        for (int[] n : no) {
            Check.due("near " + n[0] + " " + n[1], x.near(n[0], n[1]), 0);
            Check.due("near " + n[1] + " " + n[0], x.near(n[1], n[0]), 0);
        }
        int[] wrong = {32, 96, 123, 0, -1, 65, 1 << 31, 2147483647};
        for (int w : wrong) {
            Check.due("near(97, " + w + ")", x.near(97, w), -1);
            Check.due("near(" + w + ", 98)", x.near(w, 98), -1);
        }
    }

    private static void counts() {
        SwitchDesk x = new SwitchDesk();
        Check.letters(x, 0, "ab");
        x.node(0, 1, 32);
        Check.word(x, "bb", 1);
        Check.word(x, "aba", 1);
        Check.feed(x, "xyz");
        Check.take(x, 3);
        Check.take(x, 1);
        Check.take(x, 2);
        int[] want = {4, 2, 3, 2, 1, 1};
        for (int i = 0; i < want.length; i++) {
            Check.due("count(" + i + ")", x.count(i), want[i]);
        }
        Check.due("count(6)", x.count(6), -1);
        Check.due("count(-1)", x.count(-1), -1);
        Check.due("count(max)", x.count(2147483647), -1);
    }

    private static void longWritten() {
        SwitchDesk x = new SwitchDesk();
        Check.letters(x, 0, "ab");
        Check.word(x, "aaaaaaaaaaaa", 1);
        Check.word(x, "aaaaaaaaaaab", 1);
        for (int i = 0; i < 11; i++) {
            x.press();
        }
        order("eleven", x, 0, 1);
        offers("eleven", x);
        Check.take(x, 2);
        order("twelve", x);
        offers("twelve: a word", x);
        x.press();
        Check.due("thirteen written", x.count(3), 13);
        order("thirteen", x);
        offers("thirteen", x);
    }

    private static void twelveOffered() {
        SwitchDesk x = new SwitchDesk();
        Check.letters(x, 0, "ab");
        Check.word(x, "abbbbbbbbbbb", 1);
        Check.word(x, "bbbbbbbbbbba", 2);
        for (int i = 0; i < 12; i++) {
            Check.take(x, 2);
        }
        offers("twelve of b", x, 1, 0);
        Check.take(x, 2);
        offers("thirteen of b", x);
    }

    private static void fortyLongWords() {
        SwitchDesk x = new SwitchDesk();
        for (int i = 0; i < 40; i++) {
            String letters = "abcdefghij" + (char) (97 + i / 26) + (char) (97 + i % 26);
            Check.due(letters, Check.word(x, letters, 0), i);
        }
        Check.due("the last letter of all", Check.letter(x, 39, 11), 'n');
        Check.due("none behind it", Check.letter(x, 39, 12), Check.NO_SUCH);
        Check.due("alike counts stand as told", x.foreseen(39), 39);
    }
}
