import java.lang.reflect.InvocationTargetException;
import java.lang.reflect.Method;
import java.util.Arrays;
import java.util.Comparator;
import java.util.NoSuchElementException;

/** What all tests share: answers compared with those due, and short ways to feed and to press. */
final class Check {
    static final long NO_SUCH = Long.MIN_VALUE;
    static final int MIN = Integer.MIN_VALUE;
    static final int MAX = Integer.MAX_VALUE;
    static final String ALPHABET = "abcdefghijklmnopqrstuvwxyz";

    private static int wrong = 0;
    private static String test = "";

    private Check() {
    }

    static void due(String call, long got, long want) {
        if (got != want) {
            report(call + " answered " + shown(got) + ", due is " + shown(want));
        }
    }

    static void due(String call, boolean got, boolean want) {
        due(call, got ? 1 : 0, want ? 1 : 0);
    }

    static void due(String call, String got, String want) {
        if (!got.equals(want)) {
            int from = 0;
            while (from < got.length() && from < want.length() && got.charAt(from) == want.charAt(from)) {
                from++;
            }
            report(call + " answered '" + around(got, from) + "', due is '" + around(want, from) + "'");
        }
    }

    /** A long text only round the place where it differs. */
    private static String around(String s, int place) {
        if (s.length() < 100) {
            return s;
        }
        return ".. " + s.substring(Math.max(0, place - 60), Math.min(s.length(), place + 30)) + " ..";
    }

    static void report(String what) {
        wrong++;
        System.out.println(test + what);
    }

    private static String shown(long answer) {
        return answer == NO_SUCH ? "NoSuchElementException" : "" + answer;
    }

    /** Runs every test of a class, each by itself, and ends the program with 1 if an answer was wrong. */
    static void run(Class<?> tests) {
        Method[] all = tests.getDeclaredMethods();
        Arrays.sort(all, Comparator.comparing(Method::getName));
        int ran = 0;
        for (Method m : all) {
            if (m.isAnnotationPresent(Says.class)) {
                test = m.getName() + ": ";
                call(m);
                ran++;
            }
        }
        test = "";
        System.out.println(ran + " tests");
        close();
    }

    private static void call(Method m) {
        try {
            m.setAccessible(true);
            m.invoke(null);
        } catch (InvocationTargetException e) {
            report("threw " + e.getCause());
        } catch (IllegalAccessException e) {
            report("could not be run: " + e);
        }
    }

    /** Ends the program with 1 if an answer was wrong. */
    static void close() {
        System.out.println(wrong == 0 ? "all answers are as due" : wrong + " answers are not as due");
        if (wrong != 0) {
            System.exit(1);
        }
    }

    static long at(SwitchDesk x, int what, int i) {
        try {
            return x.at(what, i);
        } catch (NoSuchElementException e) {
            return NO_SUCH;
        }
    }

    static long letter(SwitchDesk x, int w, int i) {
        try {
            return x.letter(w, i);
        } catch (NoSuchElementException e) {
            return NO_SUCH;
        }
    }

    /** Feeds up to 26 letters; the last answer. */
    static int feed(SwitchDesk x, String letters) {
        int last = x.count(2);
        for (int i = 0; i < letters.length(); i += 8) {
            last = x.feed(four(letters, i), four(letters, i + 4));
        }
        return last;
    }

    static int four(String letters, int from) {
        int number = 0;
        for (int i = from; i < from + 4; i++) {
            number = number << 8 | (i < letters.length() ? letters.charAt(i) : 0);
        }
        return number;
    }

    static int word(SwitchDesk x, String letters, int count) {
        feed(x, letters);
        return x.word(count);
    }

    /** The letters of a word, to the first that is none. */
    static String spelled(SwitchDesk x, int w) {
        StringBuilder s = new StringBuilder();
        for (int i = 0; letter(x, w, i) != NO_SUCH; i++) {
            s.append((char) x.letter(w, i));
        }
        return s.toString();
    }

    static int lay(SwitchDesk x, String letters) {
        feed(x, letters);
        return x.lay();
    }

    /** Letter keys in a group, in order. */
    static void letters(SwitchDesk x, int group, String letters) {
        for (int i = 0; i < letters.length(); i++) {
            x.node(group, 1, letters.charAt(i));
        }
    }

    static SwitchDesk desk(String letters) {
        SwitchDesk x = new SwitchDesk();
        letters(x, 0, letters);
        return x;
    }

    /** Waits for a light of the group the desk is at, and takes it. */
    static int take(SwitchDesk x, int node) {
        for (int i = 0; i < 60 && x.state(2) != node; i++) {
            x.tick(4);
        }
        return x.press();
    }

    static void presses(SwitchDesk x, int n) {
        for (int i = 0; i < n; i++) {
            x.press();
        }
    }

    /** Instead of the tray, one key that is lit at once; then presses of it. */
    static void only(SwitchDesk x, int kind, int value, int presses) {
        x.clear();
        x.node(0, kind, value);
        presses(x, presses);
    }

    static void write(SwitchDesk x, String letters) {
        for (int i = 0; i < letters.length(); i++) {
            only(x, 1, letters.charAt(i), 1);
        }
    }

    static void states(SwitchDesk x, int... want) {
        for (int i = 0; i < want.length; i++) {
            due("state(" + i + ")", x.state(i), want[i]);
        }
    }

    static void texts(SwitchDesk x, String text, String said, int acts) {
        due("text", text(x, 0), text);
        due("said", text(x, 1), said);
        due("state(7)", x.state(7), acts);
    }

    static String text(SwitchDesk x, int what) {
        if (x.length(what) < 0) {
            return "none";
        }
        StringBuilder s = new StringBuilder();
        for (int i = 0; i < x.length(what); i++) {
            s.append((char) x.at(what, i));
        }
        return s.toString();
    }

    /** The words foreseen, to the first NONE. */
    static String foreseen(SwitchDesk x) {
        StringBuilder s = new StringBuilder();
        for (int k = 0; k < 41 && x.foreseen(k) != -1; k++) {
            s.append(' ').append(x.foreseen(k));
        }
        return s.toString().trim();
    }

    /** The words offered, to the first NONE. */
    static String offered(SwitchDesk x) {
        StringBuilder s = new StringBuilder();
        for (int k = 0; k < 41 && x.offered(k) != -1; k++) {
            s.append(' ').append(x.offered(k));
        }
        return s.toString().trim();
    }

    /** The tray in brackets, keys of other kinds by their kind. */
    static String tray(SwitchDesk x, int group) {
        StringBuilder s = new StringBuilder("(");
        for (int i = 1; i < x.count(0); i++) {
            if (x.told(i, 2) == group) {
                int kind = x.told(i, 0);
                s.append(kind == 0 ? tray(x, i) : kind == 1 ? "" + (char) x.told(i, 1) : "" + kind);
            }
        }
        return s.append(")").toString();
    }
}
