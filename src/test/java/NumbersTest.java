/** Promise 5: set; each of the five numbers by what it does, at and behind both its bounds. */
public final class NumbersTest {
    private static final int SPAN = 0;
    private static final int ROUNDS = 1;
    private static final int LATE = 2;
    private static final int DOUBLE = 3;
    private static final int PRICE = 4;

    public static void main(String[] args) {
        Check.run(NumbersTest.class);
    }

    /** How many ticks pass to the next change. */
    private static int span(SwitchDesk x) {
        x.clear();
        Check.letters(x, 0, "ab");
        int n = 0;
        while (n < 60 && x.state(2) == 1) {
            x.tick(1);
            n++;
        }
        return n;
    }

    /** How many rounds are full as the desk leaves a group. */
    private static int rounds(SwitchDesk x) {
        x.clear();
        x.node(0, 0, 0);
        x.node(1, 1, 'a');
        x.press();
        int n = 0;
        while (n < 20 && x.state(1) == 1) {
            x.tick(4);
            n++;
        }
        return n;
    }

    /** How many ticks behind a change the one before is no longer taken. */
    private static int late(SwitchDesk x) {
        x.set(SPAN, 50);
        int n = 0;
        while (n < 30) {
            x.clear();
            Check.letters(x, 0, "ab");
            x.tick(50 + n);
            if (x.press() == 2) {
                return n;
            }
            n++;
        }
        return n;
    }

    /** How many ticks behind a press another one counts. */
    private static int doubled(SwitchDesk x) {
        x.clear();
        x.node(0, 1, 'a');
        x.tick(30);
        x.press();
        int n = 0;
        while (n < 30 && x.press() == -1) {
            x.tick(1);
            n++;
        }
        return n;
    }

    private static int price(SwitchDesk x) {
        x.clear();
        x.node(0, 1, 'a');
        return x.cost(1) - 4;
    }

    private static int measured(int which, SwitchDesk x) {
        switch (which) {
            case SPAN:
                return span(x);
            case ROUNDS:
                return rounds(x);
            case LATE:
                return late(x);
            case DOUBLE:
                return doubled(x);
            default:
                return price(x);
        }
    }

    private static void first(int which, int v) {
        Check.due("at first", measured(which, new SwitchDesk()), v);
    }

    private static void taken(int which, int v) {
        SwitchDesk x = new SwitchDesk();
        Check.due("set(" + which + ", " + v + ")", x.set(which, v), true);
        Check.due("what it does", measured(which, x), v);
    }

    private static void refused(int which, int from, int step) {
        SwitchDesk x = new SwitchDesk();
        Check.due("set(" + which + ", 7)", x.set(which, 7), true);
        Check.due("set(" + which + ", " + from + ")", x.set(which, from), false);
        Check.due("one more", x.set(which, from + step), false);
        Check.due("far", x.set(which, step < 0 ? Check.MIN : Check.MAX), false);
        Check.due("7 stays", measured(which, x), 7);
    }

    @Says("SPAN (1 .. 50; 4 at first)")
    private static void promise05_spanIs4AtFirst() {
        first(SPAN, 4);
    }

    @Says("SPAN (1 .. 50; 4 at first)")
    private static void promise05_spanOf1IsTaken() {
        taken(SPAN, 1);
    }

    @Says("SPAN (1 .. 50; 4 at first)")
    private static void promise05_spanOf50IsTaken() {
        taken(SPAN, 50);
    }

    @Says("SPAN (1 .. 50; 4 at first)")
    private static void promise05_spanOf0IsRefused() {
        refused(SPAN, 0, -1);
    }

    @Says("SPAN (1 .. 50; 4 at first)")
    private static void promise05_spanOf51IsRefused() {
        refused(SPAN, 51, 1);
    }

    @Says("ROUNDS (1 .. 9; 2)")
    private static void promise05_roundsAre2AtFirst() {
        first(ROUNDS, 2);
    }

    @Says("ROUNDS (1 .. 9; 2)")
    private static void promise05_roundsOf1AreTaken() {
        taken(ROUNDS, 1);
    }

    @Says("ROUNDS (1 .. 9; 2)")
    private static void promise05_roundsOf9AreTaken() {
        taken(ROUNDS, 9);
    }

    @Says("ROUNDS (1 .. 9; 2)")
    private static void promise05_roundsOf0AreRefused() {
        refused(ROUNDS, 0, -1);
    }

    @Says("ROUNDS (1 .. 9; 2)")
    private static void promise05_roundsOf10AreRefused() {
        refused(ROUNDS, 10, 1);
    }

    @Says("LATE (0 .. 20; 0)")
    private static void promise05_lateIs0AtFirst() {
        first(LATE, 0);
    }

    @Says("LATE (0 .. 20; 0)")
    private static void promise05_lateOf0IsTaken() {
        SwitchDesk x = new SwitchDesk();
        x.set(LATE, 5);
        Check.due("set(2, 0)", x.set(LATE, 0), true);
        Check.due("what it does", late(x), 0);
    }

    @Says("LATE (0 .. 20; 0)")
    private static void promise05_lateOf20IsTaken() {
        taken(LATE, 20);
    }

    @Says("LATE (0 .. 20; 0)")
    private static void promise05_lateOfMinus1IsRefused() {
        refused(LATE, -1, -1);
    }

    @Says("LATE (0 .. 20; 0)")
    private static void promise05_lateOf21IsRefused() {
        refused(LATE, 21, 1);
    }

    @Says("DOUBLE (0 .. 20; 0)")
    private static void promise05_doubleIs0AtFirst() {
        first(DOUBLE, 0);
    }

    @Says("DOUBLE (0 .. 20; 0)")
    private static void promise05_doubleOf0IsTaken() {
        SwitchDesk x = new SwitchDesk();
        x.set(DOUBLE, 5);
        Check.due("set(3, 0)", x.set(DOUBLE, 0), true);
        Check.due("what it does", doubled(x), 0);
    }

    @Says("DOUBLE (0 .. 20; 0)")
    private static void promise05_doubleOf20IsTaken() {
        taken(DOUBLE, 20);
    }

    @Says("DOUBLE (0 .. 20; 0)")
    private static void promise05_doubleOfMinus1IsRefused() {
        refused(DOUBLE, -1, -1);
    }

    @Says("DOUBLE (0 .. 20; 0)")
    private static void promise05_doubleOf21IsRefused() {
        refused(DOUBLE, 21, 1);
    }

    @Says("PRICE (0 .. 50; 2)")
    private static void promise05_priceIs2AtFirst() {
        first(PRICE, 2);
    }

    @Says("PRICE (0 .. 50; 2)")
    private static void promise05_priceOf0IsTaken() {
        taken(PRICE, 0);
    }

    @Says("PRICE (0 .. 50; 2)")
    private static void promise05_priceOf50IsTaken() {
        taken(PRICE, 50);
    }

    @Says("PRICE (0 .. 50; 2)")
    private static void promise05_priceOfMinus1IsRefused() {
        refused(PRICE, -1, -1);
    }

    @Says("PRICE (0 .. 50; 2)")
    private static void promise05_priceOf51IsRefused() {
        refused(PRICE, 51, 1);
    }

    @Says("0 SPAN, 1 ROUNDS, 2 LATE, 3 DOUBLE, 4 PRICE")
    private static void promise05_eachNumberAloneIsSet() {
        int[] first = {4, 2, 0, 0, 2};
        for (int which = 0; which < 5; which++) {
            for (int other = 0; other < 5; other++) {
                SwitchDesk x = new SwitchDesk();
                x.set(which, 3);
                boolean spanIsOther = which == SPAN && (other == ROUNDS || other == PRICE);
                if (which != other && !spanIsOther) {
                    Check.due(other + " when " + which + " is set", measured(other, x), first[other]);
                }
            }
        }
    }

    @Says("False: out of bounds.")
    private static void promise05_otherNumbersAreRefused() {
        SwitchDesk x = Check.desk("ab");
        int[] others = {-1, 5, 6, 60, Check.MIN, Check.MAX};
        for (int which : others) {
            for (int v = -1; v < 11; v++) {
                Check.due("set(" + which + ", " + v + ")", x.set(which, v), false);
            }
        }
        int[] first = {4, 2, 0, 0, 2};
        for (int which = 0; which < 5; which++) {
            Check.due("number " + which, measured(which, new SwitchDesk()), first[which]);
            x.set(SPAN, 4);
            Check.due("number " + which + " behind the refusals", measured(which, x), first[which]);
        }
    }

    @Says("Told TRAYS and numbers are asked anew by each TICK and PRESS")
    private static void promise05_aNumberSetLeavesTheLightAsItIs() {
        SwitchDesk x = Check.desk("abc");
        x.tick(6);
        for (int which = 0; which < 5; which++) {
            x.set(which, 1);
        }
        Check.states(x, 6, 0, 2, 1, 4, 0, 0, 0);
    }
}
