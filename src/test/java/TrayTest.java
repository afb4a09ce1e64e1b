/** Promises 1 to 5: a new object, node, clear, told, set. */
public final class TrayTest {
    public static void main(String[] args) {
        newObject();
        nodes();
        wrongNodes();
        sixty();
        lights();
        cleared();
        numbers();
        Check.close();
    }

    private static void newObject() {
        SwitchDesk x = new SwitchDesk();
        int[] counts = {1, 0, 0, 0, 0, 0, -1};
        for (int i = 0; i < counts.length; i++) {
            Check.due("new count(" + i + ")", x.count(i), counts[i]);
        }
        int[] states = {0, 0, -1, -1, 0, 0, 0, 0, -1};
        for (int i = 0; i < states.length; i++) {
            Check.due("new state(" + i + ")", x.state(i), states[i]);
        }
        int[] told = {0, -1, -1, -1, 0, -1};
        for (int i = 0; i < told.length; i++) {
            Check.due("new told(0, " + i + ")", x.told(0, i), told[i]);
        }
        Check.due("new length(0)", x.length(0), 0);
        Check.due("new length(1)", x.length(1), -1);
        Check.due("new told(1, 0)", x.told(1, 0), -1);
        Check.due("new mean(0)", x.mean(0), -1);
        Check.due("new near(97, 98)", x.near(97, 98), 0);
    }

    private static void nodes() {
        SwitchDesk x = new SwitchDesk();
        int[][] fit = {{1, 97}, {1, 122}, {1, 32}, {2, 999}, {3, -7}, {4, 0}, {4, 4}, {5, 1 << 31}, {6, 0}, {6, 4}, {0, 77}};
        for (int i = 0; i < fit.length; i++) {
            int kind = fit[i][0];
            int value = kind == 1 || kind == 4 || kind == 6 ? fit[i][1] : -1;
            Check.due("node(0, " + kind + ", " + fit[i][1] + ")", x.node(0, kind, fit[i][1]), i + 1);
            Check.due("told(" + (i + 1) + ", 0)", x.told(i + 1, 0), kind);
            Check.due("told(" + (i + 1) + ", 1)", x.told(i + 1, 1), value);
            Check.due("told(" + (i + 1) + ", 2)", x.told(i + 1, 2), 0);
            Check.due("told(" + (i + 1) + ", 3)", x.told(i + 1, 3), kind == 0 ? -1 : i + 1);
            Check.due("told(" + (i + 1) + ", 4)", x.told(i + 1, 4), 0);
        }
        Check.due("a new node brings the desk to 0 and lights the first", x.state(2), 1);
        x.tick(9);
        x.node(11, 2, 0);
        Check.due("lit anew", x.state(2), 1);
        Check.due("changed anew", x.state(4), 9);
        Check.due("none before", x.state(3), -1);
    }

    private static void wrongNodes() {
        SwitchDesk x = new SwitchDesk();
        x.node(0, 1, 97);
        x.node(0, 1, 98);
        x.tick(5);
        String was = Check.all(x);
        int[][] wrong = {{-1, 1, 97}, {1, 1, 97}, {3, 1, 97}, {60, 0, 0}, {1 << 31, 0, 0}, {0, -1, 0}, {0, 7, 0},
            {0, 1, 96}, {0, 1, 123}, {0, 1, 65}, {0, 1, 31}, {0, 1, 33}, {0, 1, 0}, {0, 4, -1}, {0, 4, 5}, {0, 6, -1},
            {0, 6, 5}, {2147483647, 2147483647, 2147483647}};
        for (int[] w : wrong) {
            Check.due("wrong node " + w[0] + " " + w[1] + " " + w[2], x.node(w[0], w[1], w[2]), -1);
        }
        Check.due("refused nodes change nothing", Check.all(x), was);
        int[][] others = {{0, 5}, {0, -1}, {1, 5}, {3, 0}, {-1, 0}, {1 << 31, 0}, {2147483647, 4}};
        for (int[] o : others) {
            Check.due("told " + o[0] + " " + o[1], x.told(o[0], o[1]), -1);
        }
    }

    private static void sixty() {
        SwitchDesk x = new SwitchDesk();
        for (int i = 1; i < 60; i++) {
            Check.due("deep node " + i, x.node(i - 1, 0, 0), i);
        }
        Check.due("the 61st node", x.node(0, 1, 97), -1);
        Check.due("count(0)", x.count(0), 60);
        Check.due("no key, no lights", x.told(0, 4), 0);
        x.clear();
        for (int i = 1; i < 59; i++) {
            x.node(i - 1, 0, 0);
        }
        Check.due("the last one is a key", x.node(58, 1, 97), 59);
        Check.due("lights of 0", x.told(0, 4), 1);
        Check.due("cost of the deep key", x.cost(59), 59 * 6);
        for (int i = 1; i < 60; i++) {
            Check.due("press " + i, x.press(), i);
        }
        Check.due("the deep key acted", Check.text(x, 0), "a");
    }

    private static void lights() {
        SwitchDesk x = new SwitchDesk();
        x.node(0, 0, 0);
        x.node(0, 1, 97);
        x.node(1, 0, 0);
        x.node(0, 0, 0);
        x.node(0, 1, 98);
        Check.due("an empty group is no light", x.told(1, 3), -1);
        Check.due("place behind an empty group", x.told(2, 3), 1);
        Check.due("place behind two empty groups", x.told(5, 3), 2);
        Check.due("lights of 0", x.told(0, 4), 2);
        Check.due("near over an empty group", x.near(97, 98), 1);
        x.node(3, 5, 0);
        Check.due("a key at depth lights both groups", x.told(1, 3), 1);
        Check.due("inner place", x.told(3, 3), 1);
        Check.due("place moved", x.told(2, 3), 2);
        Check.due("place moved too", x.told(5, 3), 3);
        Check.due("lights of 1", x.told(1, 4), 1);
        Check.due("lights of 4", x.told(4, 4), 0);
        Check.due("lit is the group", x.state(2), 1);
    }

    private static void cleared() {
        SwitchDesk x = new SwitchDesk();
        x.node(0, 0, 0);
        x.node(1, 1, 97);
        x.press();
        x.press();
        x.press();
        x.tick(5);
        x.clear();
        Check.due("clear count(0)", x.count(0), 1);
        Check.due("clear told(1, 0)", x.told(1, 0), -1);
        int[] states = {5, 0, -1, -1, 5, 0, 3, 1};
        for (int i = 0; i < states.length; i++) {
            Check.due("clear state(" + i + ")", x.state(i), states[i]);
        }
        Check.due("clear leaves THE TEXT", Check.text(x, 0), "a");
        Check.due("a press without lights", x.press(), -1);
        Check.due("ticks go by alone", x.tick(7), -1);
        Check.due("NOW", x.state(0), 12);
        Check.due("no change", x.state(4), 5);
        Check.due("numbers begin anew", x.node(0, 1, 98), 1);
    }

    private static void numbers() {
        SwitchDesk x = new SwitchDesk();
        x.node(0, 1, 97);
        int[][] bounds = {{1, 50}, {1, 9}, {0, 20}, {0, 20}, {0, 50}};
        for (int i = 0; i < bounds.length; i++) {
            Check.due("set below " + i, x.set(i, bounds[i][0] - 1), false);
            Check.due("set lowest " + i, x.set(i, bounds[i][0]), true);
            Check.due("set above " + i, x.set(i, bounds[i][1] + 1), false);
            Check.due("set highest " + i, x.set(i, bounds[i][1]), true);
            Check.due("set far " + i, x.set(i, 1 << 31), false);
        }
        Check.due("SPAN and PRICE hold", x.cost(1), 100);
        Check.due("set(5, 1)", x.set(5, 1), false);
        Check.due("set(-1, 1)", x.set(-1, 1), false);
        Check.due("set(max, 1)", x.set(2147483647, 1), false);
        Check.due("refused numbers change nothing", x.cost(1), 100);
    }
}
