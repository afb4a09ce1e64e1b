/** Promises 1 to 4: a new object, node, clear, told; and what the terms say of the TRAY. */
public final class TrayTest {
    private static final int[] WITHOUT_VALUE = {0, 2, 3, 5};
    private static final int[] FAR = {Check.MIN, Check.MIN + 1, -60, -2, 60, 61, 1000, Check.MAX - 1, Check.MAX};

    public static void main(String[] args) {
        Check.run(TrayTest.class);
    }

    // ---- 1: a new object

    @Says("A TRAY with NODE 0 alone")
    private static void promise01_aNewTrayHasNode0Alone() {
        SwitchDesk x = new SwitchDesk();
        Check.due("count(0)", x.count(0), 1);
        Check.due("told(0, 0)", x.told(0, 0), 0);
        Check.due("told(0, 4)", x.told(0, 4), 0);
        Check.due("told(1, 0)", x.told(1, 0), -1);
        Check.due("state(2)", x.state(2), -1);
    }

    @Says("an empty TEXT and BOOK.")
    private static void promise01_aNewTextIsEmpty() {
        SwitchDesk x = new SwitchDesk();
        Check.due("length(0)", x.length(0), 0);
        Check.due("at(0, 0)", Check.at(x, 0, 0), Check.NO_SUCH);
        Check.due("count(3)", x.count(3), 0);
        Check.due("state(7)", x.state(7), 0);
        Check.due("length(1)", x.length(1), -1);
    }

    @Says("an empty TEXT and BOOK.")
    private static void promise01_aNewBookIsEmpty() {
        SwitchDesk x = new SwitchDesk();
        Check.due("count(1)", x.count(1), 0);
        Check.due("letter(0, 0)", Check.letter(x, 0, 0), Check.NO_SUCH);
        Check.due("foreseen(0)", x.foreseen(0), -1);
        Check.due("offered(0)", x.offered(0), -1);
    }

    @Says("NOW is 0 at first.")
    private static void promise01_nowIs0AtFirst() {
        Check.states(new SwitchDesk(), 0, 0, -1, -1, 0, 0, 0, 0);
    }

    @Says("The desk is at a GROUP (0 at first)")
    private static void promise01_theDeskIsAt0AtFirst() {
        SwitchDesk x = new SwitchDesk();
        Check.due("state(1)", x.state(1), 0);
        x.node(0, 0, 0);
        x.node(1, 1, 'a');
        Check.due("state(1) with a group", x.state(1), 0);
        Check.due("state(2)", x.state(2), 1);
    }

    @Says("The constants: `NONE = -1`: There is none; refused.")
    private static void promise01_noneIsMinus1() {
        Check.due("NONE", SwitchDesk.NONE, -1);
        Check.due("what there is none of", new SwitchDesk().told(0, 2), SwitchDesk.NONE);
        Check.due("what is refused", new SwitchDesk().node(0, 7, 0), SwitchDesk.NONE);
    }

    @Says("A TRAY with NODE 0 alone, an empty TEXT and BOOK.")
    private static void promise01_objectsHaveNothingInCommon() {
        SwitchDesk x = Check.desk("ab");
        Check.word(x, "abc", 5);
        Check.feed(x, "abc");
        x.press();
        x.tick(9);
        x.share('a', 3);
        x.set(0, 9);
        Check.due("a new object beside one in use", Probe.of(new SwitchDesk()), Probe.of(new SwitchDesk()));
        SwitchDesk y = new SwitchDesk();
        Check.due("count(0)", y.count(0), 1);
        Check.due("count(1)", y.count(1), 0);
        Check.due("count(2)", y.count(2), 0);
        Check.due("length(0)", y.length(0), 0);
        Check.due("state(0)", y.state(0), 0);
        y.node(0, 1, 'a');
        Check.due("mean(0)", y.mean(0), -1);
        Check.due("cost(1)", y.cost(1), 6);
    }

    // ---- 2: node

    @Says("A NODE in a GROUP: its number.")
    private static void promise02_nodesOfEachKindAndGroupAnswerTheirNumbers() {
        SwitchDesk x = new SwitchDesk();
        for (int kind = 0; kind < 7; kind++) {
            Check.due("kind " + kind + " in 0", x.node(0, kind, kind == 1 ? 'a' : 4), 2 * kind + 1);
            Check.due("kind " + kind + " in 1", x.node(1, kind, kind == 1 ? 'a' : 4), 2 * kind + 2);
        }
    }

    @Says("numbered as they are told")
    private static void promise02_nodesAreNumberedFrom1() {
        SwitchDesk x = new SwitchDesk();
        Check.due("the first", x.node(0, 0, 0), 1);
        Check.due("in another group", x.node(1, 1, 'a'), 2);
        Check.due("in 0 again", x.node(0, 1, 'b'), 3);
    }

    @Says("each other one is in a GROUP, behind what is in it already")
    private static void promise02_aNodeComesBehindWhatIsThere() {
        SwitchDesk x = new SwitchDesk();
        x.node(0, 0, 0);
        x.node(0, 1, 'z');
        x.node(1, 1, 'y');
        x.node(0, 1, 'a');
        x.node(1, 1, 'b');
        Check.due("tray", Check.tray(x, 0), "((yb)za)");
        int[] places = {-1, 1, 2, 1, 3, 2};
        for (int i = 0; i < places.length; i++) {
            Check.due("told(" + i + ", 3)", x.told(i, 3), places[i]);
        }
    }

    @Says("A TRAY has NODES, 60 at most")
    private static void promise02_sixtyNodesStandBesideOneAnother() {
        SwitchDesk x = new SwitchDesk();
        for (int i = 1; i < 60; i++) {
            Check.due("node " + i, x.node(0, 1, 97 + i % 26), i);
        }
        Check.due("count(0)", x.count(0), 60);
        Check.due("told(59, 3)", x.told(59, 3), 59);
        Check.due("told(0, 4)", x.told(0, 4), 59);
    }

    @Says("A TRAY has NODES, 60 at most")
    private static void promise02_sixtyNodesStandWithinOneAnother() {
        SwitchDesk x = new SwitchDesk();
        for (int i = 1; i < 59; i++) {
            Check.due("group " + i, x.node(i - 1, 0, 0), i);
        }
        Check.due("the key", x.node(58, 1, 'a'), 59);
        for (int i = 1; i < 60; i++) {
            Check.due("press " + i, x.press(), i);
        }
        Check.due("text", Check.text(x, 0), "a");
    }

    @Says("there are 60.")
    private static void promise02_the61stNodeOfEachKindIsRefused() {
        SwitchDesk x = new SwitchDesk();
        for (int i = 1; i < 59; i++) {
            x.node(0, i == 1 ? 0 : 2, 0);
        }
        Check.due("the last that fits", x.node(1, 5, 0), 59);
        for (int kind = 0; kind < 7; kind++) {
            Check.due("kind " + kind + " in 0", x.node(0, kind, kind == 1 ? 'a' : 0), -1);
            Check.due("kind " + kind + " in 1", x.node(1, kind, kind == 1 ? 'a' : 0), -1);
        }
        Check.due("count(0)", x.count(0), 60);
        Check.due("told(60, 0)", x.told(60, 0), -1);
    }

    @Says("no such GROUP, KIND, value")
    private static void promise02_aGroupBelow0IsRefused() {
        SwitchDesk x = Check.desk("a");
        Check.due("node(-1, 1, 97)", x.node(-1, 1, 'a'), -1);
        Check.due("node(min, 1, 97)", x.node(Check.MIN, 1, 'a'), -1);
        Check.due("count(0)", x.count(0), 2);
    }

    @Says("no such GROUP, KIND, value")
    private static void promise02_aGroupBehindTheLastNodeIsRefused() {
        SwitchDesk x = new SwitchDesk();
        Check.due("node(1, 1, 97) of a new object", x.node(1, 1, 'a'), -1);
        x.node(0, 0, 0);
        Check.due("node(2, 1, 97)", x.node(2, 1, 'a'), -1);
        Check.due("node(59, 1, 97)", x.node(59, 1, 'a'), -1);
        Check.due("node(60, 1, 97)", x.node(60, 1, 'a'), -1);
        Check.due("node(max, 1, 97)", x.node(Check.MAX, 1, 'a'), -1);
        Check.due("node(1, 1, 97)", x.node(1, 1, 'a'), 2);
    }

    @Says("no such GROUP, KIND, value")
    private static void promise02_aKeyIsNoGroup() {
        SwitchDesk x = new SwitchDesk();
        for (int kind = 1; kind < 7; kind++) {
            int key = x.node(0, kind, kind == 1 ? 'a' : 0);
            Check.due("a node in a key of kind " + kind, x.node(key, 1, 'a'), -1);
        }
        Check.due("count(0)", x.count(0), 7);
    }

    @Says("no such GROUP, KIND, value")
    private static void promise02_kindsEndAt6() {
        SwitchDesk x = new SwitchDesk();
        Check.due("kind -1", x.node(0, -1, 0), -1);
        Check.due("kind 7", x.node(0, 7, 0), -1);
        for (int kind : FAR) {
            Check.due("kind " + kind, x.node(0, kind, 'a'), -1);
        }
        Check.due("kind 0", x.node(0, 0, 0), 1);
        Check.due("kind 6", x.node(0, 6, 0), 2);
    }

    @Says("1 LETTER (a .. z, or 32)")
    private static void promise02_lettersEndAtAAndZ() {
        SwitchDesk x = new SwitchDesk();
        Check.due("96", x.node(0, 1, 96), -1);
        Check.due("123", x.node(0, 1, 123), -1);
        Check.due("A", x.node(0, 1, 65), -1);
        Check.due("Z", x.node(0, 1, 90), -1);
        Check.due("0", x.node(0, 1, 0), -1);
        Check.due("97 and 256", x.node(0, 1, 97 + 256), -1);
        for (int value : FAR) {
            Check.due("" + value, x.node(0, 1, value), -1);
        }
        Check.due("a", x.node(0, 1, 97), 1);
        Check.due("z", x.node(0, 1, 122), 2);
    }

    @Says("1 LETTER (a .. z, or 32)")
    private static void promise02_32IsALetterKeyAnd31And33AreNot() {
        SwitchDesk x = new SwitchDesk();
        Check.due("31", x.node(0, 1, 31), -1);
        Check.due("33", x.node(0, 1, 33), -1);
        Check.due("32", x.node(0, 1, 32), 1);
        Check.due("told(1, 1)", x.told(1, 1), 32);
    }

    @Says("4 FORESEEN (0 .. 4)")
    private static void promise02_foreseenKeysEndAt0And4() {
        choicesEndAt0And4(4);
    }

    @Says("6 OFFERED (0 .. 4)")
    private static void promise02_offeredKeysEndAt0And4() {
        choicesEndAt0And4(6);
    }

    private static void choicesEndAt0And4(int kind) {
        SwitchDesk x = new SwitchDesk();
        Check.due("-1", x.node(0, kind, -1), -1);
        Check.due("5", x.node(0, kind, 5), -1);
        Check.due("97", x.node(0, kind, 97), -1);
        for (int value : FAR) {
            Check.due("" + value, x.node(0, kind, value), -1);
        }
        Check.due("0", x.node(0, kind, 0), 1);
        Check.due("4", x.node(0, kind, 4), 2);
        Check.due("told(1, 1)", x.told(1, 1), 0);
        Check.due("told(2, 1)", x.told(2, 1), 4);
    }

    @Says("(asked of 1, 4, 6 alone)")
    private static void promise02_noOtherKindIsAskedForItsValue() {
        for (int kind : WITHOUT_VALUE) {
            SwitchDesk x = new SwitchDesk();
            int number = 0;
            for (int value : FAR) {
                number++;
                Check.due("kind " + kind + " with " + value, x.node(0, kind, value), number);
            }
        }
    }

    @Says("a NODE told, a TRAY laid, or cleared, brings the desk to 0")
    private static void promise02_aNodeToldBringsTheDeskTo0() {
        SwitchDesk x = inAGroup();
        x.node(1, 1, 'd');
        Check.states(x, 5, 0, 1, -1, 5, 0, 1, 0);
    }

    @Says("a NODE told, a TRAY laid, or cleared, brings the desk to 0")
    private static void promise02_aRefusedNodeLeavesTheDeskWhereItIs() {
        SwitchDesk x = inAGroup();
        x.node(2, 1, 'd');
        Check.states(x, 5, 1, 3, 2, 4, 0, 1, 0);
    }

    /** A tray ((ab)c), the desk at its group since 0, b lit since 4, NOW 5. */
    private static SwitchDesk inAGroup() {
        SwitchDesk x = new SwitchDesk();
        x.node(0, 0, 0);
        Check.letters(x, 1, "ab");
        x.node(0, 1, 'c');
        x.press();
        x.tick(5);
        Check.states(x, 5, 1, 3, 2, 4, 0, 1, 0);
        return x;
    }

    // ---- 3: clear

    @Says("The TRAY has NODE 0 alone.")
    private static void promise03_aFullTrayIsCleared() {
        SwitchDesk x = new SwitchDesk();
        for (int i = 1; i < 60; i++) {
            x.node(0, i % 7, i % 7 == 1 ? 97 : 0);
        }
        x.clear();
        Check.due("count(0)", x.count(0), 1);
        Check.due("tray", Check.tray(x, 0), "()");
        Check.due("told(0, 0)", x.told(0, 0), 0);
        Check.due("told(0, 4)", x.told(0, 4), 0);
        Check.due("told(1, 0)", x.told(1, 0), -1);
        Check.due("told(59, 0)", x.told(59, 0), -1);
        Check.due("state(2)", x.state(2), -1);
        Check.due("press()", x.press(), -1);
    }

    @Says("The TRAY has NODE 0 alone.")
    private static void promise03_sixtyNodesFitAnewAndNothingOldShows() {
        SwitchDesk x = Check.desk(Check.ALPHABET);
        x.clear();
        for (int i = 1; i < 60; i++) {
            Check.due("node " + i, x.node(0, 0, 0), i);
        }
        Check.due("the 61st", x.node(0, 0, 0), -1);
        Check.due("told(0, 4)", x.told(0, 4), 0);
        Check.due("told(1, 0)", x.told(1, 0), 0);
        Check.due("told(1, 1)", x.told(1, 1), -1);
        Check.due("near(97, 98)", x.near('a', 'b'), 0);
        Check.due("cost(1)", x.cost(1), -1);
    }

    @Says("The TRAY has NODE 0 alone.")
    private static void promise03_clearingNode0AloneLeavesIt() {
        SwitchDesk x = new SwitchDesk();
        x.clear();
        x.clear();
        Check.due("count(0)", x.count(0), 1);
        Check.due("node", x.node(0, 1, 'a'), 1);
    }

    @Says("a NODE told, a TRAY laid, or cleared, brings the desk to 0")
    private static void promise03_clearingBringsTheDeskTo0() {
        SwitchDesk x = inAGroup();
        x.clear();
        Check.states(x, 5, 0, -1, -1, 5, 0, 1, 0);
    }

    @Says("The TRAY has NODE 0 alone.")
    private static void promise03_allButTheTrayStays() {
        SwitchDesk x = Check.desk("a");
        Check.word(x, "abc", 5);
        Check.feed(x, "xy");
        x.share('a', 3);
        x.set(0, 9);
        Check.presses(x, 2);
        Check.only(x, 5, 0, 1);
        Check.write(x, "b");
        x.tick(7);
        x.clear();
        Check.texts(x, "b", "aa", 4);
        Check.states(x, 7, 0, -1, -1, 7, 0, 4);
        int[] counts = {1, 1, 2, 1, 0, 0};
        for (int i = 0; i < counts.length; i++) {
            Check.due("count(" + i + ")", x.count(i), counts[i]);
        }
        x.node(0, 1, 'a');
        Check.due("SPAN, PRICE and SHARES stay", x.mean(0), 11);
    }

    // ---- 4: told

    @Says("0 KIND")
    private static void promise04_kindsFrom0To6() {
        SwitchDesk x = new SwitchDesk();
        Check.due("told(0, 0)", x.told(0, 0), 0);
        for (int kind = 0; kind < 7; kind++) {
            x.node(0, kind, kind == 1 ? 'a' : 0);
            Check.due("kind", x.told(kind + 1, 0), kind);
        }
    }

    @Says("1 value (NONE: not of 1, 4, 6)")
    private static void promise04_noValueOfOtherKinds() {
        SwitchDesk x = new SwitchDesk();
        Check.due("of 0", x.told(0, 1), -1);
        for (int kind : WITHOUT_VALUE) {
            Check.due("kind " + kind, x.told(x.node(0, kind, 3), 1), -1);
        }
        Check.due("a letter", x.told(x.node(0, 1, 'q'), 1), 'q');
        Check.due("foreseen", x.told(x.node(0, 4, 3), 1), 3);
        Check.due("offered", x.told(x.node(0, 6, 2), 1), 2);
    }

    @Says("0 is a GROUP that is in none")
    private static void promise04_node0IsInNoGroup() {
        SwitchDesk x = Check.desk("ab");
        Check.due("told(0, 0)", x.told(0, 0), 0);
        Check.due("told(0, 2)", x.told(0, 2), -1);
        Check.due("told(0, 3)", x.told(0, 3), -1);
    }

    @Says("2 the GROUP it is in (NONE)")
    private static void promise04_theGroupOfANode() {
        SwitchDesk x = new SwitchDesk();
        x.node(0, 0, 0);
        x.node(1, 0, 0);
        x.node(2, 1, 'a');
        x.node(1, 2, 0);
        int[] groups = {-1, 0, 1, 2, 1};
        for (int i = 0; i < groups.length; i++) {
            Check.due("told(" + i + ", 2)", x.told(i, 2), groups[i]);
        }
    }

    @Says("3 its place among LIGHTS (1 the first; NONE: it is none)")
    private static void promise04_anEmptyGroupHasNoPlace() {
        SwitchDesk x = new SwitchDesk();
        x.node(0, 0, 0);
        x.node(0, 1, 'a');
        x.node(0, 0, 0);
        x.node(0, 1, 'b');
        int[] places = {-1, -1, 1, -1, 2};
        for (int i = 0; i < places.length; i++) {
            Check.due("told(" + i + ", 3)", x.told(i, 3), places[i]);
        }
    }

    @Says("LIGHTS of a GROUP are the NODES in it, in order")
    private static void promise04_whatIsDeeperInAGroupIsNoLightOfIt() {
        SwitchDesk x = new SwitchDesk();
        x.node(0, 0, 0);
        Check.letters(x, 1, "abc");
        x.node(0, 1, 'd');
        Check.due("told(0, 4)", x.told(0, 4), 2);
        Check.due("told(1, 4)", x.told(1, 4), 3);
        Check.due("told(4, 3)", x.told(4, 3), 3);
        Check.due("told(5, 3)", x.told(5, 3), 2);
    }

    @Says("without GROUPS that have no KEY at any depth")
    private static void promise04_groupsOfGroupsWithoutKeysAreNoLights() {
        SwitchDesk x = new SwitchDesk();
        for (int i = 1; i < 59; i++) {
            x.node(i - 1, 0, 0);
        }
        for (int i = 0; i < 59; i++) {
            Check.due("told(" + i + ", 3)", x.told(i, 3), -1);
            Check.due("told(" + i + ", 4)", x.told(i, 4), 0);
        }
    }

    @Says("without GROUPS that have no KEY at any depth")
    private static void promise04_aKeyAtTheGreatestDepthMakesAllGroupsLights() {
        SwitchDesk x = new SwitchDesk();
        for (int i = 1; i < 59; i++) {
            x.node(i - 1, 0, 0);
        }
        x.node(58, 5, 0);
        for (int i = 1; i < 60; i++) {
            Check.due("told(" + i + ", 3)", x.told(i, 3), 1);
            Check.due("told(" + (i - 1) + ", 4)", x.told(i - 1, 4), 1);
        }
    }

    @Says("without GROUPS that have no KEY at any depth")
    private static void promise04_everyKindOfKeyMakesAGroupALight() {
        for (int kind = 1; kind < 7; kind++) {
            SwitchDesk x = new SwitchDesk();
            x.node(0, 0, 0);
            x.node(0, 1, 'a');
            Check.due("place before", x.told(2, 3), 1);
            x.node(1, kind, kind == 1 ? 'a' : 0);
            Check.due("place with kind " + kind, x.told(2, 3), 2);
            Check.due("the group with kind " + kind, x.told(1, 3), 1);
        }
    }

    @Says("4 how many LIGHTS it has")
    private static void promise04_noLightsOfEmptyGroupsAndKeys() {
        SwitchDesk x = new SwitchDesk();
        x.node(0, 0, 0);
        x.node(0, 1, 'a');
        x.node(0, 0, 0);
        x.node(3, 0, 0);
        x.node(3, 1, 'b');
        int[] lights = {2, 0, 0, 1, 0, 0};
        for (int i = 0; i < lights.length; i++) {
            Check.due("told(" + i + ", 4)", x.told(i, 4), lights[i]);
        }
    }

    @Says("NONE for others.")
    private static void promise04_noneForOtherQuestions() {
        SwitchDesk x = Check.desk("a");
        for (int node = 0; node < 2; node++) {
            Check.due("what -1", x.told(node, -1), -1);
            Check.due("what 5", x.told(node, 5), -1);
            for (int what : FAR) {
                Check.due("what " + what, x.told(node, what), -1);
            }
        }
    }

    @Says("NONE for others.")
    private static void promise04_noneForOtherNodes() {
        SwitchDesk x = Check.desk("a");
        for (int what = 0; what < 5; what++) {
            Check.due("told(-1, " + what + ")", x.told(-1, what), -1);
            Check.due("told(2, " + what + ")", x.told(2, what), -1);
            for (int node : FAR) {
                Check.due("told(" + node + ", " + what + ")", x.told(node, what), -1);
            }
        }
    }
}
