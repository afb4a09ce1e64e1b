/** Promises 6 and 8: tick and state; and what the terms say of TICKS. */
public final class LampTest {
    private static final int[] FAR = {Check.MIN, Check.MIN + 1, -1000, -2, 9, 1002, 1000000, Check.MAX - 1, Check.MAX};

    public static void main(String[] args) {
        Check.run(LampTest.class);
    }

    /** A tray (g(xy) a): g is 1, x 2, y 3, a 4; the desk is at g since NOW 0. */
    private static SwitchDesk atGroup() {
        SwitchDesk x = new SwitchDesk();
        x.node(0, 0, 0);
        Check.letters(x, 1, "xy");
        x.node(0, 1, 'a');
        x.press();
        Check.states(x, 0, 1, 2, -1, 0, 0, 1, 0);
        return x;
    }

    // ---- 6: tick

    @Says("n TICKS (0 .. 1,000): the NODE that is lit then (NONE).")
    private static void promise06_noTickAtAll() {
        SwitchDesk x = Check.desk("abc");
        Check.due("tick(0) at first", x.tick(0), 1);
        x.tick(4);
        Check.due("tick(0) behind a change", x.tick(0), 2);
        Check.states(x, 4, 0, 2, 1, 4, 0, 0, 0);
        Check.due("tick(0) with nothing lit", new SwitchDesk().tick(0), -1);
    }

    @Says("n TICKS (0 .. 1,000): the NODE that is lit then (NONE).")
    private static void promise06_aThousandTicks() {
        SwitchDesk x = Check.desk("abc");
        Check.due("tick(1000)", x.tick(1000), 2);
        Check.states(x, 1000, 0, 2, 1, 1000, 83, 0, 0);
        Check.due("tick(999)", x.tick(999), 2);
        Check.states(x, 1999, 0, 2, 1, 1996, 166, 0, 0);
    }

    @Says("-2: n, or NOW would be above 1,000,000.")
    private static void promise06_tooFewTicks() {
        SwitchDesk x = Check.desk("abc");
        x.tick(6);
        Check.due("tick(-1)", x.tick(-1), -2);
        Check.due("tick(-1000)", x.tick(-1000), -2);
        Check.due("tick(min)", x.tick(Check.MIN), -2);
        Check.states(x, 6, 0, 2, 1, 4, 0, 0, 0);
    }

    @Says("-2: n, or NOW would be above 1,000,000.")
    private static void promise06_tooManyTicks() {
        SwitchDesk x = Check.desk("abc");
        x.tick(6);
        Check.due("tick(1001)", x.tick(1001), -2);
        Check.due("tick(1000000)", x.tick(1000000), -2);
        Check.due("tick(max)", x.tick(Check.MAX), -2);
        Check.states(x, 6, 0, 2, 1, 4, 0, 0, 0);
    }

    // More calls than the 512 that are promised: fewer cannot come to the bound.
    @Says("NOW would be above 1,000,000.")
    private static void promise06_nowEndsAtAMillion() {
        SwitchDesk x = Check.desk("abc");
        for (int i = 0; i < 999; i++) {
            x.tick(1000);
        }
        x.tick(999);
        Check.due("NOW", x.state(0), 999999);
        Check.due("tick(2)", x.tick(2), -2);
        Check.due("tick(1000)", x.tick(1000), -2);
        Check.due("NOW behind refusals", x.state(0), 999999);
        Check.due("tick(1)", x.tick(1), x.state(2));
        Check.due("NOW at its bound", x.state(0), 1000000);
        Check.due("one more", x.tick(1), -2);
        Check.due("tick(0) at the bound", x.tick(0), x.state(2));
        Check.due("NOW stays", x.state(0), 1000000);
    }

    @Says("if there are none nothing is lit and TICKS go by alone")
    private static void promise06_ticksGoByAloneWithoutNodes() {
        SwitchDesk x = new SwitchDesk();
        Check.due("tick(1)", x.tick(1), -1);
        Check.due("tick(1000)", x.tick(1000), -1);
        Check.states(x, 1001, 0, -1, -1, 0, 0, 0, 0);
    }

    @Says("if there are none nothing is lit and TICKS go by alone")
    private static void promise06_ticksGoByAloneWithEmptyGroups() {
        SwitchDesk x = new SwitchDesk();
        x.node(0, 0, 0);
        x.node(1, 0, 0);
        Check.due("tick(9)", x.tick(9), -1);
        Check.states(x, 9, 0, -1, -1, 0, 0, 0, 0);
    }

    @Says("if that is SPAN (1 .. 50; 4 at first) TICKS or more behind the last CHANGE, the next of its LIGHTS is lit")
    private static void promise06_oneTickLessThanSpanChangesNothing() {
        SwitchDesk x = Check.desk("abc");
        Check.due("tick(3)", x.tick(3), 1);
        Check.states(x, 3, 0, 1, -1, 0, 0);
        Check.due("tick(1)", x.tick(1), 2);
        Check.states(x, 4, 0, 2, 1, 4, 0);
        Check.due("tick(3) more", x.tick(3), 2);
        Check.due("tick(1) more", x.tick(1), 3);
        Check.states(x, 8, 0, 3, 2, 8, 0);
    }

    @Says("if that is SPAN (1 .. 50; 4 at first) TICKS or more behind the last CHANGE, the next of its LIGHTS is lit")
    private static void promise06_aSpanLongOverdueLightsOnlyTheNext() {
        SwitchDesk x = Check.desk("abc");
        x.set(0, 50);
        Check.due("tick(49)", x.tick(49), 1);
        x.set(0, 3);
        Check.due("tick(0) asks nothing", x.tick(0), 1);
        Check.due("tick(1)", x.tick(1), 2);
        Check.states(x, 50, 0, 2, 1, 50, 0);
        Check.due("tick(2)", x.tick(2), 2);
        Check.due("tick(1) more", x.tick(1), 3);
    }

    @Says("if that is SPAN (1 .. 50; 4 at first) TICKS or more behind the last CHANGE, the next of its LIGHTS is lit")
    private static void promise06_aSpanMadeLongerIsWaitedFor() {
        SwitchDesk x = Check.desk("abc");
        x.tick(3);
        x.set(0, 6);
        Check.due("tick(2)", x.tick(2), 1);
        Check.due("tick(1)", x.tick(1), 2);
        Check.states(x, 6, 0, 2, 1, 6, 0);
    }

    @Says("the first one since a TICK, CHANGED at it")
    private static void promise06_theSpanBeginsWhenTheLightCame() {
        SwitchDesk x = new SwitchDesk();
        x.tick(7);
        x.node(0, 1, 'a');
        x.node(0, 1, 'b');
        Check.states(x, 7, 0, 1, -1, 7, 0);
        Check.due("tick(3)", x.tick(3), 1);
        Check.due("tick(1)", x.tick(1), 2);
    }

    @Says("behind the last one the first one again, and a ROUND is full")
    private static void promise06_behindTheLastLightComesTheFirst() {
        SwitchDesk x = Check.desk("abc");
        Check.due("the last", x.tick(11), 3);
        Check.states(x, 11, 0, 3, 2, 8, 0);
        Check.due("the first", x.tick(1), 1);
        Check.states(x, 12, 0, 1, 3, 12, 1);
        Check.due("a second round", x.tick(12), 1);
        Check.states(x, 24, 0, 1, 3, 24, 2);
    }

    @Says("behind the last one the first one again, and a ROUND is full")
    private static void promise06_oneLightAloneIsARoundEachSpan() {
        SwitchDesk x = Check.desk("a");
        Check.due("tick(3)", x.tick(3), 1);
        Check.states(x, 3, 0, 1, -1, 0, 0);
        Check.due("tick(1)", x.tick(1), 1);
        Check.states(x, 4, 0, 1, 1, 4, 1);
        Check.due("tick(8)", x.tick(8), 1);
        Check.states(x, 12, 0, 1, 1, 12, 3);
    }

    @Says("behind the last one the first one again, and a ROUND is full")
    private static void promise06_fiftyNineLights() {
        SwitchDesk x = new SwitchDesk();
        for (int i = 1; i < 60; i++) {
            x.node(0, 1, 97 + i % 26);
        }
        Check.due("the last", x.tick(58 * 4), 59);
        Check.due("the first", x.tick(4), 1);
        Check.states(x, 59 * 4, 0, 1, 59, 59 * 4, 1);
    }

    @Says("the next of its LIGHTS is lit")
    private static void promise06_emptyGroupsAreNeverLit() {
        SwitchDesk x = new SwitchDesk();
        x.node(0, 0, 0);
        x.node(0, 1, 'a');
        x.node(0, 0, 0);
        x.node(0, 1, 'b');
        x.node(0, 0, 0);
        Check.due("the first", x.state(2), 2);
        Check.due("over one between", x.tick(4), 4);
        Check.due("over those at both ends", x.tick(4), 2);
        Check.due("a round", x.state(5), 1);
    }

    @Says("as ROUNDS (1 .. 9; 2) or more are full in another GROUP than 0 the desk is at 0 instead")
    private static void promise06_oneRoundLessThanRoundsStays() {
        SwitchDesk x = atGroup();
        Check.due("one round", x.tick(8), 2);
        Check.states(x, 8, 1, 2, 3, 8, 1);
        Check.due("a tick less than two", x.tick(7), 3);
        Check.states(x, 15, 1, 3, 2, 12, 1);
    }

    @Says("as ROUNDS (1 .. 9; 2) or more are full in another GROUP than 0 the desk is at 0 instead")
    private static void promise06_theLastRoundBringsTheDeskTo0() {
        SwitchDesk x = atGroup();
        x.tick(15);
        Check.due("two rounds", x.tick(1), 1);
        Check.states(x, 16, 0, 1, -1, 16, 0, 1, 0);
        Check.due("a span later", x.tick(4), 4);
    }

    @Says("as ROUNDS (1 .. 9; 2) or more are full in another GROUP than 0 the desk is at 0 instead")
    private static void promise06_roundsAtGroup0GoOn() {
        SwitchDesk x = Check.desk("ab");
        x.set(1, 1);
        x.tick(80);
        Check.states(x, 80, 0, 1, 2, 80, 10);
        x.tick(8);
        Check.states(x, 88, 0, 1, 2, 88, 11);
    }

    @Says("as ROUNDS (1 .. 9; 2) or more are full in another GROUP than 0 the desk is at 0 instead")
    private static void promise06_moreRoundsFullThanRounds() {
        SwitchDesk x = atGroup();
        x.set(1, 9);
        x.tick(24);
        Check.states(x, 24, 1, 2, 3, 24, 3);
        x.set(1, 2);
        Check.due("the round goes to its end", x.tick(7), 3);
        Check.due("as a fourth one is full", x.tick(1), 1);
        Check.states(x, 32, 0, 1, -1, 32, 0);
    }

    @Says("as ROUNDS (1 .. 9; 2) or more are full in another GROUP than 0 the desk is at 0 instead")
    private static void promise06_aGroupWithinAGroupLeadsTo0() {
        SwitchDesk x = new SwitchDesk();
        x.node(0, 0, 0);
        x.node(1, 0, 0);
        x.node(2, 1, 'a');
        x.press();
        x.press();
        Check.due("the inner group", x.state(1), 2);
        Check.due("two rounds of one light", x.tick(8), 1);
        Check.states(x, 8, 0, 1, -1, 8, 0);
    }

    @Says("A TICK: NOW is 1 more")
    private static void promise06_manyTicksAtOnceAreAsManyByThemselves() {
        for (int n = 0; n < 120; n++) {
            SwitchDesk x = atGroup();
            SwitchDesk y = atGroup();
            x.tick(n);
            for (int i = 0; i < n; i++) {
                y.tick(1);
            }
            Check.states(x, n, y.state(1), y.state(2), y.state(3), y.state(4), y.state(5));
        }
    }

    // ---- 8: state

    @Says("0 NOW, 1 the GROUP the desk is at")
    private static void promise08_atFirst() {
        Check.states(new SwitchDesk(), 0, 0, -1, -1, 0, 0, 0, 0);
        Check.states(Check.desk("a"), 0, 0, 1, -1, 0, 0, 0, 0);
    }

    @Says("2 the NODE that is lit (NONE)")
    private static void promise08_nothingIsLitWithoutLights() {
        SwitchDesk x = new SwitchDesk();
        Check.due("a new object", x.state(2), -1);
        x.node(0, 0, 0);
        Check.due("an empty group", x.state(2), -1);
        x.node(1, 2, 0);
        Check.due("a key in it", x.state(2), 1);
        x.clear();
        Check.due("cleared", x.state(2), -1);
    }

    @Says("3 the one lit BEFORE (NONE)")
    private static void promise08_noneWasLitBeforeTheFirst() {
        SwitchDesk x = Check.desk("ab");
        Check.due("at first", x.state(3), -1);
        x.tick(3);
        Check.due("a tick less than a change", x.state(3), -1);
        x.tick(1);
        Check.due("behind a change", x.state(3), 1);
        x.tick(4);
        Check.due("behind a round", x.state(3), 2);
    }

    @Says("As it comes to a GROUP (0, too) the first of its LIGHTS is lit, CHANGED at NOW, no ROUND is full, and none was lit BEFORE.")
    private static void promise08_comingToAGroup() {
        SwitchDesk x = Check.desk("a");
        x.node(0, 0, 0);
        Check.letters(x, 2, "bc");
        x.tick(14);
        Check.states(x, 14, 0, 2, 1, 12, 1, 0);
        Check.due("press", x.press(), 2);
        Check.states(x, 14, 2, 3, -1, 14, 0, 1);
    }

    @Says("As it comes to a GROUP (0, too) the first of its LIGHTS is lit, CHANGED at NOW, no ROUND is full, and none was lit BEFORE.")
    private static void promise08_comingTo0ByAKeyOf0() {
        SwitchDesk x = Check.desk("ab");
        x.tick(13);
        Check.states(x, 13, 0, 2, 1, 12, 1, 0, 0);
        Check.due("press", x.press(), 2);
        Check.states(x, 13, 0, 1, -1, 13, 0, 1, 1);
    }

    @Says("As it comes to a GROUP (0, too) the first of its LIGHTS is lit, CHANGED at NOW, no ROUND is full, and none was lit BEFORE.")
    private static void promise08_comingTo0ByAKeyOfAGroup() {
        SwitchDesk x = atGroup();
        x.tick(13);
        Check.states(x, 13, 1, 3, 2, 12, 1, 1, 0);
        Check.due("press", x.press(), 3);
        Check.states(x, 13, 0, 1, -1, 13, 0, 2, 1);
    }

    @Says("As it comes to a GROUP (0, too) the first of its LIGHTS is lit, CHANGED at NOW, no ROUND is full, and none was lit BEFORE.")
    private static void promise08_comingTo0WithoutLights() {
        SwitchDesk x = Check.desk("ab");
        x.tick(9);
        x.clear();
        Check.states(x, 9, 0, -1, -1, 9, 0);
        x.tick(5);
        x.node(0, 0, 0);
        Check.states(x, 14, 0, -1, -1, 14, 0);
    }

    @Says("4 the TICK of the last CHANGE")
    private static void promise08_theLastChange() {
        SwitchDesk x = Check.desk("ab");
        int[] changes = {0, 0, 0, 0, 4, 4, 4, 4, 8, 8, 8, 8, 12};
        for (int change : changes) {
            Check.due("state(4) at " + x.state(0), x.state(4), change);
            x.tick(1);
        }
    }

    @Says("5 full ROUNDS")
    private static void promise08_fullRounds() {
        SwitchDesk x = Check.desk("ab");
        x.tick(7);
        Check.due("a tick less", x.state(5), 0);
        x.tick(1);
        Check.due("one", x.state(5), 1);
        x.tick(1000);
        Check.due("many", x.state(5), 126);
    }

    @Says("6 PRESSES that counted")
    private static void promise08_pressesThatDoNotCount() {
        SwitchDesk x = new SwitchDesk();
        x.press();
        Check.due("nothing lit", x.state(6), 0);
        x.node(0, 1, 'a');
        x.set(3, 20);
        x.press();
        x.press();
        Check.due("a double one", x.state(6), 1);
    }

    @Says("7 how many acts UNDO can take back")
    private static void promise08_actsFrom0To100() {
        SwitchDesk x = Check.desk("a");
        Check.due("none", x.state(7), 0);
        Check.presses(x, 99);
        Check.due("99", x.state(7), 99);
        x.press();
        Check.due("100", x.state(7), 100);
        x.press();
        Check.due("101 acts", x.state(7), 100);
        Check.only(x, 3, 0, 1);
        Check.due("one taken back", x.state(7), 99);
        Check.presses(x, 99);
        Check.due("all taken back", x.state(7), 0);
        x.press();
        Check.due("no more to take back", x.state(7), 0);
    }

    @Says("NONE for others.")
    private static void promise08_noneForOthers() {
        SwitchDesk x = atGroup();
        Check.due("state(-1)", x.state(-1), -1);
        Check.due("state(8)", x.state(8), -1);
        for (int what : FAR) {
            Check.due("state(" + what + ")", x.state(what), -1);
        }
    }
}
