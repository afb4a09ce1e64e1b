import java.util.Random;
import java.util.function.Consumer;
import java.util.function.Supplier;

/**
 * What is refused changes nothing, call by call: two desks are made alike, one hears the refused calls,
 * and then every answer of both is compared. And nothing but NoSuchElementException ever comes out of a call.
 */
public final class RefusalTest {
    private static final String REFUSED = "What is refused answers as told and changes nothing.";
    private static final int[] ODD = {1 << 31, (1 << 31) + 1, -1000, -2, -1, 0, 1, 2, 3, 4, 5, 6, 7, 8, 9, 12, 20, 21,
        26, 27, 32, 39, 40, 41, 50, 51, 59, 60, 61, 96, 97, 98, 122, 123, 199, 200, 201, 255, 1000, 1001, 10000, 10001,
        0x61626364, 0x20202020, 2147483646, 2147483647};

    public static void main(String[] args) {
        Check.run(RefusalTest.class);
    }

    /** In the middle of things: at a group with a light before, a tape, acts, something said, numbers told. */
    private static SwitchDesk busy() {
        SwitchDesk x = new SwitchDesk();
        Check.word(x, "abc", 4);
        Check.word(x, "bbb", 7);
        Check.write(x, "ab");
        Check.only(x, 5, 0, 1);
        Check.write(x, "ba");
        Check.only(x, 2, 0, 1);
        Check.write(x, "ba");
        x.clear();
        Check.letters(x, 0, "abc");
        x.node(0, 0, 0);
        x.node(0, 0, 0);
        Check.letters(x, 5, "de");
        x.node(5, 6, 0);
        x.node(0, 3, 0);
        x.share('a', 4);
        x.share('b', 9);
        Check.feed(x, "cab");
        x.set(1, 3);
        x.set(2, 2);
        x.set(3, 14);
        x.set(4, 3);
        x.tick(14);
        Check.due("the group is taken", x.press(), 5);
        x.tick(13);
        Check.states(x, 27, 5, 6, 8, 26, 1);
        return x;
    }

    /** 60 nodes, 40 words, 26 bytes of tape, 200 bytes of text, 100 acts. */
    private static SwitchDesk full() {
        SwitchDesk x = new SwitchDesk();
        for (int i = 0; i < 40; i++) {
            Check.word(x, "" + (char) ('a' + i % 26) + (char) ('a' + i / 26), i * 7 % 40);
        }
        Check.only(x, 1, 'z', 200);
        x.clear();
        for (int i = 1; i < 60; i++) {
            x.node(i < 30 ? 0 : 1, i == 1 ? 0 : 1 + i % 6, i % 6 == 0 ? 'a' + i % 26 : 1);
        }
        Check.feed(x, Check.ALPHABET);
        Check.due("nodes", x.count(0), 60);
        Check.due("words", x.count(1), 40);
        Check.due("tape", x.count(2), 26);
        Check.due("written", x.count(3), 200);
        Check.due("acts", x.state(7), 100);
        return x;
    }

    private static void same(Supplier<SwitchDesk> made, Consumer<SwitchDesk> calls) {
        SwitchDesk x = made.get();
        calls.accept(x);
        Check.due("every answer behind the calls", Probe.of(x), Probe.of(made.get()));
    }

    @Says(REFUSED)
    private static void promise02_refusedNodesChangeNothing() {
        same(RefusalTest::busy, x -> {
            Check.due("no such group", x.node(99, 1, 'a'), -1);
            Check.due("below 0", x.node(-1, 1, 'a'), -1);
            Check.due("a key", x.node(1, 1, 'a'), -1);
            Check.due("kind", x.node(0, 7, 'a'), -1);
            Check.due("letter", x.node(0, 1, 'A'), -1);
            Check.due("foreseen", x.node(0, 4, 5), -1);
            Check.due("offered", x.node(5, 6, -1), -1);
        });
        same(RefusalTest::full, x -> Check.due("the 61st", x.node(0, 1, 'a'), -1));
    }

    @Says(REFUSED)
    private static void promise05_refusedNumbersChangeNothing() {
        same(RefusalTest::busy, x -> {
            int[][] wrong = {{0, 0}, {0, 51}, {1, 0}, {1, 10}, {2, -1}, {2, 21}, {3, -1}, {3, 21}, {4, -1}, {4, 51},
                {5, 1}, {-1, 1}};
            for (int[] w : wrong) {
                Check.due("set(" + w[0] + ", " + w[1] + ")", x.set(w[0], w[1]), false);
            }
        });
    }

    @Says(REFUSED)
    private static void promise06_refusedTicksChangeNothing() {
        same(RefusalTest::busy, x -> {
            Check.due("tick(-1)", x.tick(-1), -2);
            Check.due("tick(1001)", x.tick(1001), -2);
            Check.due("tick(max)", x.tick(Check.MAX), -2);
        });
    }

    @Says("it does not count")
    private static void promise07_pressesThatDoNotCountChangeNothing() {
        same(RefusalTest::busy, x -> {
            Check.due("a double press", x.press(), -1);
            Check.due("and another", x.press(), -1);
        });
        Supplier<SwitchDesk> dark = () -> {
            SwitchDesk x = busy();
            x.clear();
            x.set(3, 0);
            return x;
        };
        same(dark, x -> Check.due("nothing lit", x.press(), -1));
    }

    @Says(REFUSED)
    private static void promise11_refusedLettersChangeNothing() {
        same(RefusalTest::full, x -> {
            Check.due("one more", x.feed(0x61000000, 0), -1);
            Check.due("eight more", x.feed(-1, -1), -1);
        });
        same(RefusalTest::busy, x -> {
            Check.feed(x, "defghijklmnopqrst");
            Check.due("seven for six", x.feed(-1, 0x61616100), -1);
            x.end(3);
        });
    }

    @Says(REFUSED)
    private static void promise12_refusedEndsChangeNothing() {
        same(RefusalTest::busy, x -> {
            Check.due("end(4)", x.end(4), false);
            Check.due("end(-1)", x.end(-1), false);
        });
        same(RefusalTest::full, x -> Check.due("end(27)", x.end(27), false));
    }

    @Says(REFUSED)
    private static void promise13_refusedWordsChangeNothing() {
        same(RefusalTest::busy, x -> {
            Check.due("count -1", x.word(-1), -1);
            Check.due("count 10001", x.word(10001), -1);
            Check.feed(x, "A");
            Check.due("A", x.word(1), -1);
            x.end(3);
            Check.feed(x, "abcabcabca");
            Check.due("thirteen", x.word(1), -1);
            x.end(3);
        });
        same(RefusalTest::full, x -> {
            x.end(3);
            Check.due("the 41st", x.word(1), -1);
            Check.feed(x, Check.ALPHABET.substring(3));
        });
    }

    @Says(REFUSED)
    private static void promise18_refusedSharesChangeNothing() {
        same(RefusalTest::busy, x -> {
            int[][] wrong = {{'a', -1}, {'a', 1001}, {'b', Check.MIN}, {'b', Check.MAX}, {96, 3}, {123, 3}, {32, 3}};
            for (int[] w : wrong) {
                Check.due("share(" + w[0] + ", " + w[1] + ")", x.share(w[0], w[1]), false);
            }
        });
    }

    @Says(REFUSED)
    private static void promise21_refusedRowsChangeNothing() {
        same(RefusalTest::busy, x -> {
            Check.feed(x, "a");
            Check.due("a twice", x.lay(), -1);
            x.end(3);
            Check.feed(x, " ");
            Check.due("32", x.lay(), -1);
            x.end(3);
        });
        Supplier<SwitchDesk> empty = () -> {
            SwitchDesk x = busy();
            x.end(0);
            return x;
        };
        same(empty, x -> Check.due("no letters", x.lay(), -1));
    }

    @Says("NONE for others.")
    private static void promise22_askingChangesNothing() {
        Consumer<SwitchDesk> asked = x -> {
            for (int a : ODD) {
                x.state(a);
                x.length(a);
                x.foreseen(a);
                x.offered(a);
                x.cost(a);
                x.mean(a);
                x.count(a);
                for (int b : ODD) {
                    x.told(a, b);
                    Check.at(x, a, b);
                    Check.letter(x, a, b);
                    x.near(a, b);
                }
            }
        };
        same(RefusalTest::busy, asked);
        same(RefusalTest::full, asked);
    }

    private static int any(Random chance) {
        return ODD[chance.nextInt(ODD.length)];
    }

    // An exception out of any call ends the test, and so counts as wrong.
    @Says(REFUSED)
    private static void promise01_noCallThrowsByItself() {
        for (int run = 0; run < 200; run++) {
            Random chance = new Random(run);
            SwitchDesk x = run % 3 == 0 ? new SwitchDesk() : run % 3 == 1 ? busy() : full();
            for (int i = 0; i < 3000; i++) {
                anyCall(x, chance);
            }
        }
    }

    private static void anyCall(SwitchDesk x, Random chance) {
        int a = any(chance);
        int b = any(chance);
        int c = any(chance);
        switch (chance.nextInt(24)) {
            case 0, 1 -> x.node(chance.nextInt(4) == 0 ? a : 0, b, c);
            case 2 -> clearSometimes(x, chance);
            case 3 -> x.told(a, b);
            case 4 -> x.set(a, b);
            case 5 -> x.tick(a);
            case 6, 7 -> x.press();
            case 8 -> x.state(a);
            case 9 -> x.length(a);
            case 10 -> Check.at(x, a, b);
            case 11 -> x.feed(a, b);
            case 12 -> x.end(a);
            case 13, 14 -> x.word(a);
            case 15 -> Check.letter(x, a, b);
            case 16 -> x.foreseen(a);
            case 17 -> x.offered(a);
            case 18 -> x.near(a, b);
            case 19 -> x.share(a, b);
            case 20 -> x.cost(a);
            case 21 -> x.mean(a);
            case 22 -> x.lay();
            default -> x.count(a);
        }
    }

    private static void clearSometimes(SwitchDesk x, Random chance) {
        if (chance.nextInt(20) == 0) {
            x.clear();
        }
    }
}
