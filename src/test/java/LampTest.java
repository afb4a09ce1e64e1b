/** Promises 6 to 8: tick, press, state. */
public final class LampTest {
    public static void main(String[] args) {
        ticks();
        wrongTicks();
        rounds();
        spanToldAnew();
        roundsToldAnew();
        late();
        lateInANewStay();
        doublePress();
        keysThatDoNothingCount();
        Check.close();
    }

    private static SwitchDesk abc() {
        SwitchDesk x = new SwitchDesk();
        Check.letters(x, 0, "abc");
        return x;
    }

    private static void states(String name, SwitchDesk x, int... want) {
        for (int i = 0; i < want.length; i++) {
            Check.due(name + " state(" + i + ")", x.state(i), want[i]);
        }
    }

    private static void ticks() {
        SwitchDesk x = abc();
        Check.due("tick(0)", x.tick(0), 1);
        Check.due("tick(3)", x.tick(3), 1);
        Check.due("tick(1)", x.tick(1), 2);
        states("one change", x, 4, 0, 2, 1, 4, 0, 0, 0, -1);
        Check.due("tick(8)", x.tick(8), 1);
        states("a round in 0", x, 12, 0, 1, 3, 12, 1, 0, 0);
        Check.due("tick(1000)", x.tick(1000), 2);
        states("rounds in 0 go on", x, 1012, 0, 2, 1, 1012, 84, 0, 0);
        Check.due("state(-1)", x.state(-1), -1);
        Check.due("state(8)", x.state(8), -1);
        Check.due("state(max)", x.state(2147483647), -1);
    }

    private static void wrongTicks() {
        SwitchDesk x = abc();
        x.tick(7);
        String was = Check.all(x);
        Check.due("tick(-1)", x.tick(-1), -2);
        Check.due("tick(1001)", x.tick(1001), -2);
        Check.due("tick(min)", x.tick(1 << 31), -2);
        Check.due("tick(max)", x.tick(2147483647), -2);
        Check.due("refused ticks change nothing", Check.all(x), was);
        // Beyond the 512 calls that are promised, but it shows the bound itself.
        SwitchDesk y = abc();
        for (int i = 0; i < 1000; i++) {
            y.tick(1000);
        }
        Check.due("NOW is at its bound", y.state(0), 1000000);
        Check.due("tick(1) at the bound", y.tick(1), -2);
        Check.due("tick(0) at the bound", y.tick(0), y.state(2));
    }

    private static void rounds() {
        SwitchDesk x = abc();
        int g = x.node(0, 0, 0);
        Check.letters(x, g, "xy");
        Check.due("the group is taken", Check.take(x, g), g);
        states("in the group", x, 12, g, 5, -1, 12, 0, 1, 0);
        Check.due("a round", x.tick(8), 5);
        states("a round in the group", x, 20, g, 5, 6, 20, 1);
        x.tick(7);
        states("nearly two", x, 27, g, 6, 5, 24, 1);
        Check.due("two rounds: 0", x.tick(1), 1);
        states("at 0", x, 28, 0, 1, -1, 28, 0, 1, 0);
        x.set(1, 1);
        Check.take(x, g);
        x.tick(8);
        states("one round is enough", x, 48, 0, 1, -1, 48, 0);
    }

    private static void spanToldAnew() {
        SwitchDesk x = abc();
        x.set(0, 50);
        Check.due("a long span", x.tick(30), 1);
        x.set(0, 3);
        Check.due("a short one is met by the next tick", x.tick(1), 2);
        states("one change alone", x, 31, 0, 2, 1, 31, 0);
        Check.due("then by three", x.tick(2), 2);
        Check.due("then by three", x.tick(1), 3);
        x.set(0, 1);
        Check.due("a span of 1", x.tick(4), 1);
    }

    private static void roundsToldAnew() {
        SwitchDesk x = new SwitchDesk();
        x.node(0, 0, 0);
        Check.letters(x, 1, "ab");
        x.set(1, 9);
        x.press();
        x.tick(24);
        Check.due("three rounds", x.state(5), 3);
        x.set(1, 2);
        Check.due("the round goes to its end", x.tick(4), 3);
        Check.due("then the desk is at 0", x.tick(4), 1);
        Check.due("at 0", x.state(1), 0);
    }

    private static void late() {
        SwitchDesk x = abc();
        x.set(2, 2);
        Check.due("none was before", x.press(), 1);
        x.tick(4);
        Check.due("0 late takes the one before", x.press(), 1);
        x.tick(5);
        Check.due("1 late takes the one before", x.press(), 1);
        x.tick(6);
        Check.due("2 late takes the lit one", x.press(), 2);
        x.tick(12);
        Check.due("behind the last comes the first", x.press(), 3);
        Check.due("what was taken", Check.text(x, 0), "aaabc");
        x.set(2, 20);
        x.tick(7);
        Check.due("a lateness above the span", x.press(), 1);
    }

    private static void lateInANewStay() {
        SwitchDesk x = new SwitchDesk();
        x.node(0, 1, 97);
        x.node(0, 0, 0);
        x.node(2, 1, 98);
        x.set(2, 2);
        x.tick(6);
        Check.due("the group", x.press(), 2);
        Check.due("none before in the new stay", x.press(), 3);
        x.tick(6);
        x.press();
        x.tick(4);
        Check.due("one light alone is before itself", x.state(3), 3);
        Check.due("and is taken", x.press(), 3);
    }

    private static void doublePress() {
        SwitchDesk x = abc();
        x.set(3, 3);
        Check.due("the first press counts at once", x.press(), 1);
        Check.due("0 behind", x.press(), -1);
        x.tick(2);
        Check.due("2 behind", x.press(), -1);
        Check.due("presses", x.state(6), 1);
        x.tick(1);
        Check.due("3 behind the one that counted", x.press(), 1);
        x.tick(2);
        x.clear();
        Check.due("nothing lit", x.press(), -1);
        x.node(0, 1, 98);
        Check.due("a new tray does not make it count", x.press(), -1);
        x.tick(1);
        Check.due("the press without light did not count", x.press(), 1);
        Check.due("presses", x.state(6), 3);
        Check.due("what was taken", Check.text(x, 0), "aab");
        x.set(3, 0);
        Check.due("without DOUBLE", x.press(), 1);
    }

    private static void keysThatDoNothingCount() {
        SwitchDesk x = new SwitchDesk();
        x.node(0, 2, 0);
        x.node(0, 3, 0);
        x.node(0, 4, 0);
        x.node(0, 6, 0);
        for (int i = 1; i < 5; i++) {
            Check.due("key " + i, Check.take(x, i), i);
        }
        Check.due("presses", x.state(6), 4);
        Check.due("no act", x.state(7), 0);
        Check.due("no text", x.length(0), 0);
    }
}
