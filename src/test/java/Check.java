import java.util.NoSuchElementException;

/** What all tests share: answers compared with those due, and short ways to feed and to press. */
final class Check {
    static final long NO_SUCH = Long.MIN_VALUE;

    private static int wrong = 0;

    private Check() {
    }

    static void due(String call, long got, long want) {
        if (got != want) {
            wrong++;
            System.out.println(call + " answered " + got + ", due is " + want);
        }
    }

    static void due(String call, boolean got, boolean want) {
        due(call, got ? 1 : 0, want ? 1 : 0);
    }

    static void due(String call, String got, String want) {
        if (!got.equals(want)) {
            wrong++;
            System.out.println(call + " answered '" + got + "', due is '" + want + "'");
        }
    }

    /** Ends the program with 1 if an answer was wrong. */
    static void close() {
        System.out.println(wrong == 0 ? "all answers are as due" : wrong + " answers are not as due");
        if (wrong != 0) {
            System.exit(1);
        }
    }

    static long at(SwitchDesk x, int what, int i) {
        try {
            return x.at(what, i);
        } catch (NoSuchElementException e) {
            return NO_SUCH;
        }
    }

    static long letter(SwitchDesk x, int w, int i) {
        try {
            return x.letter(w, i);
        } catch (NoSuchElementException e) {
            return NO_SUCH;
        }
    }

    /** Feeds up to 26 letters; the last answer. */
    static int feed(SwitchDesk x, String letters) {
        int last = x.count(2);
        for (int i = 0; i < letters.length(); i += 8) {
            last = x.feed(four(letters, i), four(letters, i + 4));
        }
        return last;
    }

    static int four(String letters, int from) {
        int number = 0;
        for (int i = from; i < from + 4; i++) {
            number = number << 8 | (i < letters.length() ? letters.charAt(i) : 0);
        }
        return number;
    }

    static int word(SwitchDesk x, String letters, int count) {
        feed(x, letters);
        return x.word(count);
    }

    static int lay(SwitchDesk x, String letters) {
        feed(x, letters);
        return x.lay();
    }

    /** Letter keys in a group, in order. */
    static void letters(SwitchDesk x, int group, String letters) {
        for (int i = 0; i < letters.length(); i++) {
            x.node(group, 1, letters.charAt(i));
        }
    }

    /** Waits for a light of the group the desk is at, and takes it. */
    static int take(SwitchDesk x, int node) {
        for (int i = 0; i < 60 && x.state(2) != node; i++) {
            x.tick(4);
        }
        return x.press();
    }

    static String text(SwitchDesk x, int what) {
        if (x.length(what) < 0) {
            return "none";
        }
        StringBuilder s = new StringBuilder();
        for (int i = 0; i < x.length(what); i++) {
            s.append((char) x.at(what, i));
        }
        return s.toString();
    }

    /** The tray in brackets, keys of other kinds by their kind. */
    static String tray(SwitchDesk x, int group) {
        StringBuilder s = new StringBuilder("(");
        for (int i = 1; i < x.count(0); i++) {
            if (x.told(i, 2) == group) {
                int kind = x.told(i, 0);
                s.append(kind == 0 ? tray(x, i) : kind == 1 ? "" + (char) x.told(i, 1) : "" + kind);
            }
        }
        return s.append(")").toString();
    }

    /** All that can be asked of a desk, so that two states can be compared. */
    static String all(SwitchDesk x) {
        StringBuilder s = new StringBuilder(tray(x, 0));
        for (int i = 0; i < 60; i++) {
            for (int what = 0; what < 5; what++) {
                s.append(' ').append(x.told(i, what));
            }
            s.append(' ').append(x.cost(i));
        }
        for (int what = 0; what < 8; what++) {
            s.append(" s").append(x.state(what)).append(" c").append(x.count(what));
        }
        s.append(" '").append(text(x, 0)).append("' '").append(text(x, 1)).append("'");
        for (int w = 0; w < 40; w++) {
            for (int i = 0; letter(x, w, i) != NO_SUCH; i++) {
                s.append((char) x.letter(w, i));
            }
            s.append(" f").append(x.foreseen(w)).append(" o").append(x.offered(w));
        }
        for (int a = 97; a < 123; a++) {
            for (int b = 97; b < 123; b++) {
                s.append(x.near(a, b));
            }
        }
        return s.append(' ').append(x.mean(0)).append('/').append(x.mean(1)).toString();
    }
}
