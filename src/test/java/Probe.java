/**
 * Everything that answers can show of a desk, as one text. First what can be asked, then what comes
 * out only by use: ticks and presses show the numbers, UNDO shows the acts, WORDS and LAYING show the
 * TAPE and the SHARES. The desk is used up by it, so two desks made alike are compared.
 */
final class Probe {
    private final SwitchDesk x;
    private final StringBuilder seen = new StringBuilder();

    private Probe(SwitchDesk x) {
        this.x = x;
    }

    static String of(SwitchDesk x) {
        Probe p = new Probe(x);
        p.tray();
        p.book();
        p.asked();
        p.inUse();
        p.tape();
        p.acts();
        p.shares();
        return p.seen.toString();
    }

    private void add(String name, long answer) {
        seen.append(' ').append(name).append(answer);
    }

    private void tray() {
        seen.append(Check.tray(x, 0));
        for (int i = 0; i < x.count(0); i++) {
            for (int what = 0; what < 5; what++) {
                add("told", x.told(i, what));
            }
            add("cost", x.cost(i));
        }
        for (int a = 'a'; a <= 'z'; a++) {
            for (int b = 'a'; b <= 'z'; b++) {
                seen.append(x.near(a, b));
            }
        }
    }

    private void book() {
        for (int w = 0; w < x.count(1); w++) {
            seen.append(' ').append(Check.spelled(x, w));
        }
    }

    private void asked() {
        for (int what = 0; what < 8; what++) {
            add("state", x.state(what));
            add("count", x.count(what));
        }
        texts();
        seen.append(" foreseen ").append(Check.foreseen(x)).append(" offered ").append(Check.offered(x));
        add("mean", x.mean(0));
        add("mean", x.mean(1));
    }

    private void texts() {
        seen.append(" '").append(Check.text(x, 0)).append("' '").append(Check.text(x, 1)).append("'");
    }

    private void inUse() {
        for (int i = 0; i < 300; i++) {
            add("tick", x.tick(1));
            add("before", x.state(3));
            add("rounds", x.state(5));
            if (i % 7 == 6) {
                add("press", x.press());
                add("press", x.press());
                add("group", x.state(1));
            }
        }
    }

    private void tape() {
        int bytes = x.count(2);
        add("lay", x.lay());
        seen.append(Check.tray(x, 0));
        for (int n = Math.min(bytes, 12); n > 0; n--) {
            x.end(n);
            int w = x.word(1);
            add("word", w);
            seen.append(Check.spelled(x, w));
        }
        x.end(0);
    }

    private void acts() {
        x.set(3, 0);
        x.clear();
        x.node(0, 3, 0);
        for (int i = 0; i < 101; i++) {
            x.press();
            texts();
        }
    }

    private void shares() {
        for (int c = 'a'; c <= 'z'; c++) {
            x.feed(c, 0);
            add("share", x.lay());
        }
    }
}
