/** Promises 18 to 20: share, cost, mean. */
public final class SharesTest {
    private static final int[] FAR = {Check.MIN, Check.MIN + 1, -60, -2, 60, 61, 1002, Check.MAX - 1, Check.MAX};

    public static void main(String[] args) {
        Check.run(SharesTest.class);
    }

    private static void mean(String name, SwitchDesk x, long ticks, long all) {
        Check.due(name + ", mean(0)", x.mean(0), ticks);
        Check.due(name + ", mean(1)", x.mean(1), all);
    }

    /** 1 more than the share of a letter, as a laying of it alone shows. */
    private static int shown(SwitchDesk x, int letter) {
        return Check.lay(x, "" + (char) letter) / 6;
    }

    // ---- 18: share

    @Says("of each LETTER (a .. z; 0 .. 1,000; 0 at first)")
    private static void promise18_sharesAre0AtFirst() {
        SwitchDesk x = new SwitchDesk();
        for (int c = 'a'; c <= 'z'; c++) {
            Check.due("share of " + c, shown(x, c), 1);
        }
    }

    @Says("SHARE of a LETTER.")
    private static void promise18_eachLetterHasItsOwn() {
        SwitchDesk x = new SwitchDesk();
        for (int c = 'a'; c <= 'z'; c++) {
            Check.due("share(" + c + ")", x.share(c, c), true);
        }
        for (int c = 'a'; c <= 'z'; c++) {
            Check.due("share of " + c, shown(x, c), c + 1);
        }
    }

    @Says("of each LETTER (a .. z; 0 .. 1,000; 0 at first)")
    private static void promise18_sharesOf0And1000AreTaken() {
        SwitchDesk x = new SwitchDesk();
        Check.due("share(97, 1000)", x.share('a', 1000), true);
        Check.due("share(122, 1000)", x.share('z', 1000), true);
        Check.due("a", shown(x, 'a'), 1001);
        Check.due("z", shown(x, 'z'), 1001);
        Check.due("b stays", shown(x, 'b'), 1);
        Check.due("share(97, 0)", x.share('a', 0), true);
        Check.due("a", shown(x, 'a'), 1);
        Check.due("z stays", shown(x, 'z'), 1001);
    }

    @Says("False: no such one, out of bounds.")
    private static void promise18_aShareBelow0IsRefused() {
        SwitchDesk x = new SwitchDesk();
        x.share('a', 7);
        Check.due("share(97, -1)", x.share('a', -1), false);
        Check.due("share(97, min)", x.share('a', Check.MIN), false);
        Check.due("a", shown(x, 'a'), 8);
    }

    @Says("False: no such one, out of bounds.")
    private static void promise18_aShareAbove1000IsRefused() {
        SwitchDesk x = new SwitchDesk();
        x.share('a', 7);
        Check.due("share(97, 1001)", x.share('a', 1001), false);
        Check.due("share(97, max)", x.share('a', Check.MAX), false);
        Check.due("a", shown(x, 'a'), 8);
    }

    @Says("False: no such one, out of bounds.")
    private static void promise18_otherLettersAreRefused() {
        SwitchDesk x = Check.desk("az");
        int[] others = {96, 123, 32, 'A', 'Z', 0, -1, 97 + 256, Check.MIN, Check.MAX};
        for (int other : others) {
            Check.due("share(" + other + ", 1)", x.share(other, 1), false);
            Check.due("share(" + other + ", 0)", x.share(other, 0), false);
        }
        mean("no share", x, -1, -1);
    }

    // ---- 19: cost

    @Says("SPAN times its place among LIGHTS (1 the first) and PRICE (0 .. 50; 2)")
    private static void promise19_placesOf0() {
        SwitchDesk x = Check.desk("abc");
        Check.due("cost(1)", x.cost(1), 6);
        Check.due("cost(2)", x.cost(2), 10);
        Check.due("cost(3)", x.cost(3), 14);
    }

    @Says("COST of a NODE.")
    private static void promise19_groupsAndAllKindsOfKeysHaveACost() {
        SwitchDesk x = new SwitchDesk();
        for (int kind = 0; kind < 7; kind++) {
            x.node(0, kind, kind == 1 ? 'a' : 0);
        }
        x.node(1, 2, 0);
        for (int i = 1; i < 8; i++) {
            Check.due("cost(" + i + ")", x.cost(i), 4 * i + 2);
        }
        Check.due("cost(8)", x.cost(8), 12);
    }

    @Says("for it and each GROUP it is within but 0")
    private static void promise19_placesWithinGroups() {
        SwitchDesk x = Check.desk("a");
        x.node(0, 0, 0);
        x.node(2, 2, 0);
        x.node(2, 0, 0);
        x.node(4, 5, 0);
        x.node(4, 1, 'b');
        int[] costs = {-1, 6, 10, 16, 20, 26, 30};
        for (int i = 0; i < costs.length; i++) {
            Check.due("cost(" + i + ")", x.cost(i), costs[i]);
        }
    }

    @Says("for it and each GROUP it is within but 0")
    private static void promise19_theGreatestDepth() {
        SwitchDesk x = new SwitchDesk();
        for (int i = 1; i < 59; i++) {
            x.node(i - 1, 0, 0);
        }
        x.node(58, 1, 'a');
        Check.due("cost(59)", x.cost(59), 59 * 6);
        Check.due("cost(1)", x.cost(1), 6);
        x.set(0, 50);
        x.set(4, 50);
        Check.due("cost(59) at the bounds", x.cost(59), 59 * 100);
    }

    @Says("SPAN times its place among LIGHTS (1 the first) and PRICE (0 .. 50; 2)")
    private static void promise19_spanAndPriceAtTheirBounds() {
        SwitchDesk x = Check.desk("ab");
        x.set(0, 1);
        x.set(4, 0);
        Check.due("the least", x.cost(2), 2);
        x.set(0, 50);
        Check.due("SPAN 50", x.cost(2), 100);
        x.set(4, 50);
        Check.due("PRICE 50", x.cost(2), 150);
    }

    @Says("SPAN times its place among LIGHTS (1 the first)")
    private static void promise19_emptyGroupsTakeNoPlace() {
        SwitchDesk x = new SwitchDesk();
        x.node(0, 0, 0);
        x.node(0, 1, 'a');
        Check.due("cost(2)", x.cost(2), 6);
        x.node(1, 2, 0);
        Check.due("cost(2) behind a light", x.cost(2), 10);
    }

    @Says("NONE: no such one, 0, or it is no LIGHT.")
    private static void promise19_noneForNode0() {
        Check.due("a new object", new SwitchDesk().cost(0), -1);
        Check.due("with keys", Check.desk("ab").cost(0), -1);
    }

    @Says("NONE: no such one, 0, or it is no LIGHT.")
    private static void promise19_noneForNoSuchNode() {
        SwitchDesk x = Check.desk("ab");
        Check.due("cost(-1)", x.cost(-1), -1);
        Check.due("cost(3)", x.cost(3), -1);
        for (int node : FAR) {
            Check.due("cost(" + node + ")", x.cost(node), -1);
        }
        x.clear();
        Check.due("cost(1) behind clear", x.cost(1), -1);
    }

    @Says("NONE: no such one, 0, or it is no LIGHT.")
    private static void promise19_noneForGroupsWithoutKeys() {
        SwitchDesk x = new SwitchDesk();
        x.node(0, 0, 0);
        x.node(1, 0, 0);
        Check.due("cost(1)", x.cost(1), -1);
        Check.due("cost(2)", x.cost(2), -1);
        x.node(1, 1, 'a');
        Check.due("cost(1) with a key", x.cost(1), 6);
        Check.due("cost(2) still without", x.cost(2), -1);
        Check.due("cost(3)", x.cost(3), 12);
    }

    // ---- 20: mean

    @Says("(none, if one of them has no KEY, or there are none)")
    private static void promise20_noneWithoutShares() {
        SwitchDesk x = Check.desk("ab");
        mean("no share", x, -1, -1);
        x.share('a', 1);
        mean("a", x, 6, 1);
        x.share('a', 0);
        mean("no share again", x, -1, -1);
    }

    @Says("(none, if one of them has no KEY, or there are none)")
    private static void promise20_noneIfOneLetterHasNoKey() {
        SwitchDesk x = Check.desk("ab");
        x.share('a', 1000);
        x.share('c', 1);
        mean("c has no key", x, -1, -1);
        x.share('c', 0);
        mean("c has no share", x, 6, 1);
        x.clear();
        mean("no keys", x, -1, -1);
    }

    @Says("over LETTERS with a SHARE above 0")
    private static void promise20_lettersWithoutShareDoNotCount() {
        SwitchDesk x = Check.desk("abc");
        x.share('b', 1);
        mean("b alone", x, 10, 1);
    }

    @Says("SHARE by the least COST of its KEYS")
    private static void promise20_theLeastOfItsKeys() {
        SwitchDesk x = Check.desk("ba");
        x.share('a', 1);
        mean("behind b", x, 10, 1);
        x.node(0, 1, 'a');
        mean("a dearer key more", x, 10, 1);
        x.clear();
        x.node(0, 0, 0);
        x.node(1, 1, 'a');
        x.node(0, 1, 'a');
        mean("12 in a group, 10 behind it", x, 10, 1);
    }

    @Says("by the sum of these SHARES")
    private static void promise20_theSharesToldNotOneMore() {
        SwitchDesk x = Check.desk("ab");
        x.share('a', 1);
        x.share('b', 2);
        mean("6 + 2 * 10 by 3", x, 26, 3);
        x.share('a', 1000);
        x.share('b', 1);
        mean("6000 + 10 by 1001", x, 6010, 1001);
    }

    @Says("what 0 the numerator, 1 the denominator, in lowest terms.")
    private static void promise20_lowestTerms() {
        SwitchDesk x = Check.desk("abc");
        x.share('a', 3);
        x.share('c', 4);
        mean("74 by 7", x, 74, 7);
        x.share('b', 2);
        mean("94 by 9", x, 94, 9);
        x.share('a', 500);
        x.share('b', 1000);
        x.share('c', 500);
        mean("20000 by 2000", x, 10, 1);
        x.share('c', 0);
        mean("13000 by 1500", x, 26, 3);
    }

    @Says("what 0 the numerator, 1 the denominator, in lowest terms.")
    private static void promise20_thereIsNoGreaterMean() {
        SwitchDesk x = new SwitchDesk();
        for (int i = 1; i < 34; i++) {
            x.node(i - 1, 0, 0);
        }
        for (int c = 'a'; c <= 'z'; c++) {
            x.node(33, 1, c);
            x.share(c, 1000);
        }
        x.share('z', 999);
        x.set(0, 50);
        x.set(4, 50);
        // 33 groups of 100 each; then 50 times the place, and 50.
        long sum = 0;
        for (int i = 0; i < 26; i++) {
            sum += (i == 25 ? 999L : 1000L) * (3300 + 50 * (i + 1) + 50);
        }
        mean("all letters", x, sum, 25999);
    }

    @Says("NONE: none, what.")
    private static void promise20_noneForOthers() {
        SwitchDesk x = Check.desk("a");
        x.share('a', 1);
        Check.due("mean(-1)", x.mean(-1), -1);
        Check.due("mean(2)", x.mean(2), -1);
        for (int what : FAR) {
            Check.due("mean(" + what + ")", x.mean(what), -1);
        }
    }
}
