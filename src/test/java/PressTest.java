/** Promise 7: press; which presses count and what they take. What keys do is in KeysTest. */
public final class PressTest {
    public static void main(String[] args) {
        Check.run(PressTest.class);
    }

    @Says("A PRESS: the NODE taken.")
    private static void promise07_theNodeTakenIsAnsweredWhateverItsKind() {
        for (int kind = 0; kind < 7; kind++) {
            SwitchDesk x = Check.desk("a");
            x.node(0, kind, kind == 1 ? 'b' : 0);
            if (kind == 0) {
                x.node(2, 1, 'c');
            }
            x.tick(4);
            Check.due("kind " + kind, x.press(), 2);
            Check.due("state(6)", x.state(6), 1);
        }
    }

    @Says("NONE: it did not count, nothing is lit.")
    private static void promise07_nothingIsLit() {
        SwitchDesk x = new SwitchDesk();
        Check.due("press()", x.press(), -1);
        x.node(0, 0, 0);
        Check.due("with an empty group", x.press(), -1);
        Check.states(x, 0, 0, -1, -1, 0, 0, 0, 0);
    }

    @Says("or with nothing lit, it does not count")
    private static void promise07_aPressWithNothingLitIsNotTheLastOneThatCounted() {
        SwitchDesk x = new SwitchDesk();
        x.set(3, 20);
        x.press();
        x.node(0, 1, 'a');
        Check.due("right behind it", x.press(), 1);
        Check.due("state(6)", x.state(6), 1);
    }

    @Says("less than DOUBLE (0 .. 20; 0) TICKS behind the last one that counted")
    private static void promise07_theFirstPressIsBehindNone() {
        SwitchDesk x = Check.desk("a");
        x.set(3, 20);
        Check.due("at 0", x.press(), 1);
        SwitchDesk y = Check.desk("a");
        y.set(3, 20);
        y.tick(3);
        Check.due("at 3", y.press(), 1);
    }

    @Says("less than DOUBLE (0 .. 20; 0) TICKS behind the last one that counted")
    private static void promise07_oneTickLessThanDouble() {
        SwitchDesk x = Check.desk("a");
        x.set(3, 5);
        x.press();
        Check.due("0 behind", x.press(), -1);
        x.tick(4);
        Check.due("4 behind", x.press(), -1);
        Check.due("state(6)", x.state(6), 1);
        Check.due("text", Check.text(x, 0), "a");
    }

    @Says("less than DOUBLE (0 .. 20; 0) TICKS behind the last one that counted")
    private static void promise07_justDouble() {
        SwitchDesk x = Check.desk("a");
        x.set(3, 5);
        x.press();
        x.tick(5);
        Check.due("5 behind", x.press(), 1);
        Check.due("0 behind that", x.press(), -1);
        Check.due("state(6)", x.state(6), 2);
    }

    @Says("less than DOUBLE (0 .. 20; 0) TICKS behind the last one that counted")
    private static void promise07_pressesThatDoNotCountPutOffNothing() {
        SwitchDesk x = Check.desk("a");
        x.set(3, 5);
        x.press();
        for (int i = 0; i < 4; i++) {
            x.tick(1);
            Check.due("press", x.press(), -1);
        }
        x.tick(1);
        Check.due("5 behind the one that counted", x.press(), 1);
    }

    @Says("less than DOUBLE (0 .. 20; 0) TICKS behind the last one that counted")
    private static void promise07_doubleOf0LetsEachPressCount() {
        SwitchDesk x = Check.desk("a");
        Check.presses(x, 3);
        Check.due("state(6)", x.state(6), 3);
        Check.due("text", Check.text(x, 0), "aaa");
    }

    @Says("less than DOUBLE (0 .. 20; 0) TICKS behind the last one that counted")
    private static void promise07_doubleIsAskedAnewByEachPress() {
        SwitchDesk x = Check.desk("a");
        x.press();
        x.tick(2);
        x.set(3, 3);
        Check.due("made longer", x.press(), -1);
        x.set(3, 2);
        Check.due("made shorter", x.press(), 1);
    }

    @Says("less than DOUBLE (0 .. 20; 0) TICKS behind the last one that counted")
    private static void promise07_aNewTrayDoesNotForgetTheLastPress() {
        SwitchDesk x = Check.desk("a");
        x.set(3, 5);
        x.press();
        x.tick(4);
        x.clear();
        x.node(0, 1, 'b');
        Check.due("4 behind", x.press(), -1);
        x.tick(1);
        Check.due("5 behind", x.press(), 1);
    }

    @Says("less than DOUBLE (0 .. 20; 0) TICKS behind the last one that counted")
    private static void promise07_aPressThatTookAGroupIsOneThatCounted() {
        SwitchDesk x = new SwitchDesk();
        x.node(0, 0, 0);
        x.node(1, 1, 'a');
        x.set(3, 1);
        Check.due("the group", x.press(), 1);
        Check.due("at once", x.press(), -1);
        Check.due("still at the group", x.state(1), 1);
        x.tick(1);
        Check.due("a tick later", x.press(), 2);
    }

    @Says("less than DOUBLE (0 .. 20; 0) TICKS behind the last one that counted, or with nothing lit, it does not count.")
    private static void promise07_aPressThatDoesNotCountLeavesTheLight() {
        SwitchDesk x = Check.desk("ab");
        x.set(3, 20);
        x.press();
        x.tick(13);
        Check.states(x, 13, 0, 2, 1, 12, 1, 1, 1);
        Check.due("press", x.press(), -1);
        Check.states(x, 13, 0, 2, 1, 12, 1, 1, 1);
    }

    @Says("if NOW is less than LATE (0 .. 20; 0) behind the last CHANGE and one was lit BEFORE that in this stay, that one is taken")
    private static void promise07_oneTickLessThanLate() {
        SwitchDesk x = Check.desk("ab");
        x.set(2, 3);
        x.tick(4);
        Check.due("0 late", x.press(), 1);
        x.tick(6);
        Check.due("2 late", x.press(), 1);
        Check.due("text", Check.text(x, 0), "aa");
    }

    @Says("else the one that is lit")
    private static void promise07_justLate() {
        SwitchDesk x = Check.desk("ab");
        x.set(2, 3);
        x.tick(7);
        Check.due("3 late", x.press(), 2);
        Check.due("text", Check.text(x, 0), "b");
    }

    @Says("if NOW is less than LATE (0 .. 20; 0) behind the last CHANGE and one was lit BEFORE that in this stay, that one is taken")
    private static void promise07_lateOf0TakesTheLightAtItsChange() {
        SwitchDesk x = Check.desk("ab");
        x.tick(4);
        Check.due("at the change", x.press(), 2);
    }

    @Says("if NOW is less than LATE (0 .. 20; 0) behind the last CHANGE and one was lit BEFORE that in this stay, that one is taken")
    private static void promise07_lateOfSpanOrMoreNeverTakesTheLight() {
        SwitchDesk x = Check.desk("abc");
        x.set(2, 4);
        x.tick(7);
        Check.due("LATE is SPAN", x.press(), 1);
        x.set(2, 20);
        x.tick(11);
        Check.due("LATE is more", x.press(), 2);
    }

    @Says("one was lit BEFORE that in this stay")
    private static void promise07_noneBeforeTheFirstLight() {
        SwitchDesk x = Check.desk("ab");
        x.set(2, 20);
        Check.due("at 0", x.press(), 1);
        x.tick(3);
        Check.due("at 3", x.press(), 1);
    }

    @Says("one was lit BEFORE that in this stay")
    private static void promise07_noneBeforeInAGroupJustTaken() {
        SwitchDesk x = Check.desk("a");
        x.node(0, 0, 0);
        Check.letters(x, 2, "bc");
        x.tick(4);
        x.press();
        x.set(2, 20);
        Check.due("the first of the group", x.press(), 3);
    }

    @Says("one was lit BEFORE that in this stay")
    private static void promise07_noneBeforeBehindTheLastRound() {
        SwitchDesk x = new SwitchDesk();
        x.node(0, 0, 0);
        Check.letters(x, 1, "ab");
        x.node(0, 1, 'c');
        x.press();
        x.set(2, 20);
        x.tick(16);
        Check.due("back at 0", x.state(1), 0);
        Check.due("the first of 0", x.press(), 1);
    }

    @Says("one was lit BEFORE that in this stay")
    private static void promise07_beforeTheFirstLightOfARoundIsTheLast() {
        SwitchDesk x = Check.desk("abc");
        x.set(2, 2);
        x.tick(13);
        Check.due("lit", x.state(2), 1);
        Check.due("1 late behind a round", x.press(), 3);
    }

    @Says("one was lit BEFORE that in this stay")
    private static void promise07_oneLightAloneIsBeforeItself() {
        SwitchDesk x = Check.desk("a");
        x.set(2, 2);
        x.tick(4);
        Check.due("press", x.press(), 1);
        Check.due("text", Check.text(x, 0), "a");
    }

    @Says("that one is taken, else the one that is lit")
    private static void promise07_aGroupLitBeforeIsTakenLate() {
        SwitchDesk x = new SwitchDesk();
        x.node(0, 0, 0);
        x.node(1, 1, 'a');
        x.node(0, 1, 'b');
        x.set(2, 1);
        x.tick(4);
        Check.due("the group", x.press(), 1);
        Check.states(x, 4, 1, 2, -1, 4, 0, 1, 0);
    }

    @Says("Told TRAYS and numbers are asked anew by each TICK and PRESS")
    private static void promise07_lateIsAskedAnewByEachPress() {
        SwitchDesk x = Check.desk("ab");
        x.tick(5);
        x.set(2, 2);
        Check.due("made longer", x.press(), 1);
        x.tick(5);
        x.set(2, 1);
        Check.due("made shorter", x.press(), 2);
    }

    @Says("A GROUP taken: the desk is at it. A KEY: it acts, and the desk is at 0.")
    private static void promise07_groupsAndKeys() {
        SwitchDesk x = new SwitchDesk();
        x.node(0, 0, 0);
        x.node(1, 0, 0);
        x.node(2, 1, 'a');
        Check.due("the outer group", x.press(), 1);
        Check.due("at it", x.state(1), 1);
        Check.due("the inner group", x.press(), 2);
        Check.due("at it", x.state(1), 2);
        Check.due("no act", x.state(7), 0);
        Check.due("the key", x.press(), 3);
        Check.due("at 0", x.state(1), 0);
        Check.due("an act", x.state(7), 1);
    }
}
