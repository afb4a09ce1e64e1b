/** Promises 18 to 21: share, cost, mean, lay. */
public final class SharesTest {
    public static void main(String[] args) {
        shares();
        costs();
        means();
        laying();
        wrongLaying();
        ties();
        all26();
        Check.close();
    }

    private static void shares() {
        SwitchDesk x = new SwitchDesk();
        Check.letters(x, 0, "az");
        int[][] wrong = {{96, 1}, {123, 1}, {32, 1}, {0, 1}, {-1, 1}, {1 << 31, 1}, {2147483647, 1}, {97, -1},
            {97, 1001}, {97, 1 << 31}, {97, 2147483647}};
        for (int[] w : wrong) {
            Check.due("share " + w[0] + " " + w[1], x.share(w[0], w[1]), false);
        }
        Check.due("refused shares change nothing", x.mean(0), -1);
        Check.due("share(97, 1000)", x.share(97, 1000), true);
        Check.due("share(122, 0)", x.share(122, 0), true);
        Check.due("mean", x.mean(0), 6);
        Check.due("share(122, 1000)", x.share(122, 1000), true);
        Check.due("mean", x.mean(0), 8);
        Check.due("share(97, 0)", x.share(97, 0), true);
        Check.due("mean", x.mean(0), 10);
    }

    private static void costs() {
        SwitchDesk x = new SwitchDesk();
        x.node(0, 0, 0);
        x.node(0, 1, 97);
        x.node(0, 0, 0);
        x.node(3, 2, 0);
        x.node(3, 0, 0);
        x.node(5, 5, 0);
        x.node(5, 1, 98);
        x.node(5, 0, 0);
        int[] want = {-1, -1, 6, 10, 16, 20, 26, 30, -1, -1};
        for (int i = 0; i < want.length; i++) {
            Check.due("cost(" + i + ")", x.cost(i), want[i]);
        }
        Check.due("cost(-1)", x.cost(-1), -1);
        Check.due("cost(60)", x.cost(60), -1);
        Check.due("cost(min)", x.cost(1 << 31), -1);
        x.set(0, 50);
        x.set(4, 0);
        Check.due("SPAN and PRICE are asked anew", x.cost(7), 100 + 100 + 100);
    }

    private static void mean(String name, SwitchDesk x, long ticks, long all) {
        Check.due(name + ", mean(0)", x.mean(0), ticks);
        Check.due(name + ", mean(1)", x.mean(1), all);
        Check.due(name + ", mean(2)", x.mean(2), -1);
        Check.due(name + ", mean(-1)", x.mean(-1), -1);
        Check.due(name + ", mean(min)", x.mean(1 << 31), -1);
    }

    private static void means() {
        SwitchDesk x = new SwitchDesk();
        mean("nothing", x, -1, -1);
        Check.letters(x, 0, "abca");
        mean("no share", x, -1, -1);
        x.share('a', 3);
        mean("the least of two keys", x, 6, 1);
        x.share('c', 4);
        mean("a and c", x, 74, 7);
        x.share('b', 2);
        mean("a, b and c", x, 94, 9);
        x.share('d', 1);
        mean("one has no key", x, -1, -1);
        x.share('d', 0);
        x.share('a', 1);
        x.share('b', 0);
        x.share('c', 1);
        mean("lowest terms", x, 10, 1);
        x.clear();
        mean("no keys", x, -1, -1);
    }

    private static void laying() {
        SwitchDesk x = new SwitchDesk();
        x.node(0, 1, 'z');
        x.node(0, 5, 0);
        x.press();
        x.tick(6);
        Check.due("one", Check.lay(x, "q"), 6);
        Check.due("one's tray", Check.tray(x, 0), "(q)");
        Check.due("the tape is empty", x.count(2), 0);
        Check.due("the desk is at 0", x.state(2), 1);
        Check.due("changed", x.state(4), 6);
        Check.due("none before", x.state(3), -1);
        Check.due("THE TEXT stays", Check.text(x, 0), "z");
        Check.due("two", Check.lay(x, "ba"), 16);
        Check.due("two's tray", Check.tray(x, 0), "(ba)");
        x.share('c', 1000);
        Check.due("three", Check.lay(x, "abc"), 12 + 16 + 1001 * 10);
        Check.due("three's tray", Check.tray(x, 0), "((ab)c)");
        Check.due("the group's number", x.told(1, 0), 0);
        Check.due("what is in it", x.told(2, 2), 1);
        Check.due("what is behind it", x.told(4, 2), 0);
        x.set(4, 50);
        Check.due("a high price", Check.lay(x, "abc"), 108 + 112 + 1001 * 58);
        Check.due("a high price's tray", Check.tray(x, 0), "((ab)c)");
        x.share('c', 5);
        Check.due("too high a price", Check.lay(x, "abc"), 54 + 58 + 6 * 62);
        Check.due("too high a price's tray", Check.tray(x, 0), "(abc)");
    }

    private static void wrongLaying() {
        SwitchDesk x = new SwitchDesk();
        Check.letters(x, 0, "ab");
        x.tick(5);
        Check.due("empty", x.lay(), -1);
        Check.due("alike", Check.lay(x, "aba"), -1);
        Check.due("the tape stays", x.count(2), 3);
        x.end(2);
        Check.due("32", Check.lay(x, " "), -1);
        x.end(2);
        Check.due("a great letter", Check.lay(x, "C"), -1);
        x.end(2);
        x.feed(0xff000000, 0);
        Check.due("a high byte", x.lay(), -1);
        Check.due("the tray stays", Check.tray(x, 0), "(ab)");
        Check.due("the light stays", x.state(2), 2);
        Check.due("alike far off", Check.lay(new SwitchDesk(), "abcdefghijklmnopqrstuvwxya"), -1);
    }

    private static void ties() {
        SwitchDesk x = new SwitchDesk();
        x.set(0, 1);
        x.set(4, 0);
        // (abc) costs 1 + 2 + 3; ((ab)c) costs 2 + 3 + 2.
        Check.due("three", Check.lay(x, "abc"), 6);
        x.share('c', 1);
        // Both cost 9 now: the first key has fewer letters.
        Check.due("alike sums", Check.lay(x, "abc"), 9);
        Check.due("alike trays", Check.tray(x, 0), "(abc)");
        x.share('c', 2);
        Check.due("a dear last one", Check.lay(x, "abc"), 11);
        Check.due("a group then", Check.tray(x, 0), "((ab)c)");
    }

    private static void all26() {
        SwitchDesk x = new SwitchDesk();
        for (int i = 0; i < 26; i++) {
            x.share(97 + i, 1000);
        }
        x.set(0, 50);
        x.set(4, 0);
        int least = Check.lay(x, "abcdefghijklmnopqrstuvwxyz");
        long sum = 0;
        StringBuilder row = new StringBuilder();
        for (int i = 1; i < x.count(0); i++) {
            if (x.told(i, 0) == 1) {
                sum += 1001L * x.cost(i);
                row.append((char) x.told(i, 1));
            }
        }
        Check.due("the sum is that of the tray", least, sum);
        Check.due("the row is in order", row.toString(), "abcdefghijklmnopqrstuvwxyz");
        for (int i = 0; i < 26; i++) {
            x.share(97 + i, i == 25 ? 1000 : 0);
        }
        x.set(0, 50);
        Check.lay(x, "abcdefghijklmnopqrstuvwxyz");
        Check.due("the last one is cheap", x.cost(x.count(0) - 1) <= 100, true);
        Check.due("60 nodes are enough", x.count(0) <= 60, true);
    }
}
