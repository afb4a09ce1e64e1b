import java.util.Random;

/** What is refused changes nothing, and nothing but NoSuchElementException ever comes out of a call. */
public final class RefusalTest {
    private static final int[] ODD = {1 << 31, (1 << 31) + 1, -1000, -2, -1, 0, 1, 2, 3, 4, 5, 6, 7, 8, 9, 12, 20, 21,
        26, 27, 32, 39, 40, 41, 50, 51, 59, 60, 61, 96, 97, 98, 122, 123, 199, 200, 201, 255, 1000, 1001, 10000, 10001,
        0x61626364, 0x20202020, 2147483646, 2147483647};

    public static void main(String[] args) {
        refusals();
        for (int run = 0; run < 200; run++) {
            anyArguments(new SwitchDesk(), new Random(run));
        }
        Check.close();
    }

    private static void refusals() {
        SwitchDesk x = new SwitchDesk();
        Check.letters(x, 0, "abc");
        x.node(0, 0, 0);
        x.node(4, 5, 0);
        x.node(0, 4, 0);
        Check.word(x, "abc", 4);
        Check.word(x, "bbb", 4);
        x.share('a', 4);
        Check.take(x, 1);
        Check.take(x, 2);
        x.tick(6);
        Check.feed(x, "aab");
        String was = Check.all(x);
        Check.due("node", x.node(1, 1, 97), -1);
        Check.due("set", x.set(0, 0), false);
        Check.due("tick", x.tick(1001), -2);
        Check.due("feed", x.feed(-1, -1), 11);
        Check.due("feed", x.feed(-1, -1), 19);
        Check.due("feed", x.feed(-1, -1), -1);
        Check.due("end", x.end(20), false);
        Check.due("end", x.end(3), true);
        Check.due("word", x.word(-1), -1);
        Check.due("share", x.share(97, 1001), false);
        Check.due("lay", x.lay(), -1);
        x.set(3, 20);
        Check.due("press", x.press(), -1);
        Check.due("a refused call changed something", Check.all(x), was);
    }

    private static int any(Random chance) {
        return ODD[chance.nextInt(ODD.length)];
    }

    private static void anyArguments(SwitchDesk x, Random chance) {
        for (int i = 0; i < 3000; i++) {
            int a = any(chance);
            int b = any(chance);
            int c = any(chance);
            switch (chance.nextInt(24)) {
                case 0, 1 -> x.node(chance.nextInt(4) == 0 ? a : 0, b, c);
                case 2 -> clearSometimes(x, chance);
                case 3 -> x.told(a, b);
                case 4 -> x.set(a, b);
                case 5 -> x.tick(a);
                case 6, 7 -> x.press();
                case 8 -> x.state(a);
                case 9 -> x.length(a);
                case 10 -> Check.at(x, a, b);
                case 11 -> x.feed(a, b);
                case 12 -> x.end(a);
                case 13, 14 -> x.word(a);
                case 15 -> Check.letter(x, a, b);
                case 16 -> x.foreseen(a);
                case 17 -> x.offered(a);
                case 18 -> x.near(a, b);
                case 19 -> x.share(a, b);
                case 20 -> x.cost(a);
                case 21 -> x.mean(a);
                case 22 -> x.lay();
                default -> x.count(a);
            }
        }
    }

    private static void clearSometimes(SwitchDesk x, Random chance) {
        if (chance.nextInt(20) == 0) {
            x.clear();
        }
    }
}
