import java.util.Random;

/** Runs of calls by chance (always the same ones), each answer compared with the plain desk's. */
public final class ModelTest {
    private static final int RUNS = 1500;
    private static final int CALLS = 512;

    private final Random chance;
    private final int run;
    private final SwitchDesk x = new SwitchDesk();
    private final PlainDesk y = new PlainDesk();
    private final int letters;
    private final int bias;

    private ModelTest(int run) {
        this.run = run;
        this.chance = new Random(run);
        this.letters = 2 + chance.nextInt(run % 5 == 0 ? 25 : 4);
        this.bias = chance.nextInt(3);
    }

    public static void main(String[] args) {
        for (int run = 0; run < RUNS; run++) {
            new ModelTest(run).go();
        }
        Check.close();
    }

    private void go() {
        for (int i = 0; i < CALLS; i++) {
            int c = chance.nextInt(100);
            if (c < 36) {
                desk();
            } else if (c < 50) {
                tray();
            } else if (c < 60) {
                book();
            } else if (c < 65) {
                laying();
            } else {
                ask();
            }
        }
    }

    private void due(String call, long got, long want) {
        Check.due("run " + run + ": " + call, got, want);
    }

    private int pick(int... of) {
        return of[chance.nextInt(of.length)];
    }

    private int odd() {
        return pick(-1, 1 << 31, 2147483647, 60, 1001, chance.nextInt());
    }

    private int maybeOdd(int v) {
        return chance.nextInt(25) == 0 ? odd() : v;
    }

    private int az() {
        return 97 + chance.nextInt(letters);
    }

    private void desk() {
        if (chance.nextInt(2) == 0) {
            int n = maybeOdd(pick(0, 1, 2, 3, 4, 4, 4, 8, 12, chance.nextInt(30), chance.nextInt(1001)));
            due("tick " + n, x.tick(n), y.tick(n));
        } else {
            for (int i = pick(1, 1, 1, 2, 4); i > 0; i--) {
                due("press", x.press(), y.press());
            }
        }
    }

    private void tray() {
        if (chance.nextInt(bias == 0 ? 8 : 60) == 0) {
            x.clear();
            y.clear();
        } else if (chance.nextInt(4) == 0) {
            int which = maybeOdd(chance.nextInt(5));
            int v = maybeOdd(pick(0, 1, 2, 3, 4, 5, 9, 10, 20, 21, 50, 51));
            due("set " + which + " " + v, x.set(which, v) ? 1 : 0, y.set(which, v) ? 1 : 0);
        } else {
            int group = maybeOdd(chance.nextInt(3) == 0 ? 0 : chance.nextInt(y.nodes.size()));
            int kind = maybeOdd(pick(0, 0, 1, 1, 1, 1, 2, 3, 4, 5, 6, 7));
            int value = maybeOdd(kind == 1 ? pick(az(), az(), az(), 32) : chance.nextInt(3));
            due("node " + group + " " + kind + " " + value, x.node(group, kind, value), y.node(group, kind, value));
        }
    }

    private void feed(int most) {
        StringBuilder s = new StringBuilder();
        for (int i = chance.nextInt(most + 1); i > 0; i--) {
            s.append((char) (chance.nextInt(60) == 0 ? pick(0, 32, 65, 200) : az()));
        }
        int one = Check.four(s.toString(), 0);
        int other = Check.four(s.toString(), 4);
        due("feed " + one + " " + other, x.feed(one, other), y.feed(one, other));
    }

    private void book() {
        if (chance.nextInt(10) == 0) {
            int n = maybeOdd(chance.nextInt(10));
            due("end " + n, x.end(n) ? 1 : 0, y.end(n) ? 1 : 0);
        }
        feed(pick(1, 2, 3, 4, 8));
        int count = maybeOdd(pick(0, 1, 2, 3, 10000, 10001));
        due("word " + count, x.word(count), y.word(count));
        if (chance.nextInt(3) == 0) {
            due("end", x.end(0) ? 1 : 0, y.end(0) ? 1 : 0);
        }
    }

    private void laying() {
        int letter = maybeOdd(az());
        int v = maybeOdd(pick(0, 1, 2, 3, 10, 1000));
        due("share " + letter + " " + v, x.share(letter, v) ? 1 : 0, y.share(letter, v) ? 1 : 0);
        if (chance.nextInt(bias == 1 ? 2 : 6) == 0) {
            due("end", x.end(0) ? 1 : 0, y.end(0) ? 1 : 0);
            feed(6);
            due("lay", x.lay(), y.lay());
        }
    }

    private void ask() {
        int node = maybeOdd(chance.nextInt(y.nodes.size()));
        int what = maybeOdd(chance.nextInt(8));
        int k = maybeOdd(chance.nextInt(4));
        int a = maybeOdd(az());
        int b = maybeOdd(az());
        int i = maybeOdd(chance.nextInt(y.text.length() + 1));
        switch (chance.nextInt(12)) {
            case 0 -> due("told " + node + " " + what, x.told(node, what), y.told(node, what));
            case 1, 2 -> due("state " + what, x.state(what), y.state(what));
            case 3 -> due("length " + what, x.length(what), y.length(what));
            case 4 -> due("at " + what + " " + i, Check.at(x, what, i), y.at(what, i));
            case 5 -> due("letter " + k, Check.letter(x, k, what), y.letter(k, what));
            case 6 -> due("foreseen " + k, x.foreseen(k), k < 0 || k >= y.foreseen().size() ? -1 : y.foreseen().get(k));
            case 7 -> due("offered " + k, x.offered(k), k < 0 || k >= y.offered().size() ? -1 : y.offered().get(k));
            case 8 -> due("near " + a + " " + b, x.near(a, b), y.near(a, b));
            case 9 -> due("cost " + node, x.cost(node), y.cost(node));
            case 10 -> due("mean " + what, x.mean(what), y.mean(what));
            default -> due("count " + what, x.count(what), y.count(what));
        }
        texts();
    }

    private void texts() {
        Check.due("run " + run + ": text", Check.text(x, 0), y.text);
        Check.due("run " + run + ": said", Check.text(x, 1), y.said == null ? "none" : y.said);
    }
}
