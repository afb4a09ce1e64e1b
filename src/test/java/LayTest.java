import java.util.Random;

/** Promise 21: lay; against every tray of short rows, and against a slow count by places for long ones. */
public final class LayTest {
    public static void main(String[] args) {
        Check.run(LayTest.class);
    }

    private static void laid(SwitchDesk x, String row, int least, String tray) {
        Check.due("lay " + row, Check.lay(x, row), least);
        Check.due("tray of " + row, Check.tray(x, 0), tray);
    }

    // ---- the row

    @Says("LAYING of a row of LETTERS (1 .. 26, all unlike)")
    private static void promise21_oneLetter() {
        laid(new SwitchDesk(), "q", 6, "(q)");
    }

    @Says("LAYING of a row of LETTERS (1 .. 26, all unlike)")
    private static void promise21_allTwentySixLetters() {
        SwitchDesk x = new SwitchDesk();
        for (int c = 'a'; c <= 'z'; c++) {
            x.share(c, 1000);
        }
        x.set(0, 50);
        x.set(4, 50);
        int least = Check.lay(x, Check.ALPHABET);
        Check.due("sum", sum(x, 1001), least);
        Check.due("row", Check.tray(x, 0).replaceAll("[()]", ""), Check.ALPHABET);
        Check.due("60 nodes are enough", x.count(0) <= 60, true);
    }

    /** The sum of the tray's own costs where all shares are alike. */
    private static long sum(SwitchDesk x, int share) {
        long sum = 0;
        for (int i = 1; i < x.count(0); i++) {
            sum += x.told(i, 0) == 1 ? (long) share * x.cost(i) : 0;
        }
        return sum;
    }

    @Says("NONE: it is no such row.")
    private static void promise21_anEmptyTapeIsNoRow() {
        SwitchDesk x = Check.desk("ab");
        Check.due("lay", x.lay(), -1);
        Check.due("the tray stays", Check.tray(x, 0), "(ab)");
    }

    @Says("NONE: it is no such row.")
    private static void promise21_alikeLettersAreNoRow() {
        SwitchDesk x = Check.desk("ab");
        Check.due("aa", Check.lay(x, "aa"), -1);
        Check.due("the tape stays", x.count(2), 2);
        x.end(0);
        Check.due("alike at both ends", Check.lay(x, "abcdefghijklmnopqrstuvwxya"), -1);
        x.end(0);
        Check.due("alike at the end", Check.lay(x, "abcdefghijklmnopqrstuvwxyy"), -1);
        Check.due("the tape stays", x.count(2), 26);
        Check.due("the tray stays", Check.tray(x, 0), "(ab)");
    }

    @Says("NONE: it is no such row.")
    private static void promise21_otherBytesAreNoRow() {
        int[] others = {32, 96, 123, 'A', 'Z', 1, 127, 128, 'c' + 128, 255};
        for (int other : others) {
            for (int place = 0; place < 3; place++) {
                SwitchDesk x = Check.desk("ab");
                x.feed((0x61626300 & ~(255 << 24 - 8 * place)) | other << 24 - 8 * place, 0);
                Check.due("byte " + other + " at " + place, x.lay(), -1);
                Check.due("the tape stays", x.count(2), 3);
                Check.due("the tray stays", Check.tray(x, 0), "(ab)");
            }
        }
    }

    @Says("LAYING of the TAPE (empty then): the least sum.")
    private static void promise21_theTapeIsEmptyThen() {
        SwitchDesk x = new SwitchDesk();
        Check.lay(x, "abc");
        Check.due("count(2)", x.count(2), 0);
        Check.due("again", x.lay(), -1);
        Check.due("the tray stays", Check.tray(x, 0), "(abc)");
    }

    @Says("a TRAY that has them as KEYS in that order")
    private static void promise21_theOldTrayIsGone() {
        SwitchDesk x = new SwitchDesk();
        for (int i = 1; i < 60; i++) {
            x.node(0, i < 30 ? 0 : 1, 'z');
        }
        laid(x, "ba", 16, "(ba)");
        Check.due("count(0)", x.count(0), 3);
        Check.due("told(3, 0)", x.told(3, 0), -1);
        Check.due("near(z, z)", x.near('z', 'z'), 0);
        Check.due("near(a, b)", x.near('a', 'b'), 1);
        Check.due("a node more", x.node(0, 1, 'c'), 3);
    }

    @Says("a NODE told, a TRAY laid, or cleared, brings the desk to 0")
    private static void promise21_aTrayLaidBringsTheDeskTo0() {
        SwitchDesk x = atGroup();
        Check.lay(x, "xyz");
        Check.states(x, 5, 0, 1, -1, 5, 0, 1, 0);
        Check.due("a span later", x.tick(4), 2);
    }

    @Says("a NODE told, a TRAY laid, or cleared, brings the desk to 0")
    private static void promise21_aRefusedRowLeavesTheDeskWhereItIs() {
        SwitchDesk x = atGroup();
        Check.due("lay", Check.lay(x, "aa"), -1);
        Check.states(x, 5, 1, 3, 2, 4, 0, 1, 0);
    }

    /** A tray ((ab)), the desk at its group since 0, b lit since 4, NOW 5. */
    private static SwitchDesk atGroup() {
        SwitchDesk x = new SwitchDesk();
        x.node(0, 0, 0);
        Check.letters(x, 1, "ab");
        x.press();
        x.tick(5);
        return x;
    }

    @Says("LAYING of the TAPE (empty then): the least sum.")
    private static void promise21_allButTrayAndTapeStays() {
        SwitchDesk x = Check.desk("a");
        Check.word(x, "ab", 3);
        x.share('a', 5);
        Check.presses(x, 2);
        Check.only(x, 5, 0, 1);
        Check.write(x, "b");
        x.tick(3);
        Check.lay(x, "a");
        Check.texts(x, "b", "aa", 4);
        Check.states(x, 3, 0, 1, -1, 3, 0, 4);
        Check.due("count(1)", x.count(1), 1);
        Check.due("mean(0)", x.mean(0), 6);
    }

    // ---- the sum

    @Says("the sum of SHARE (here each is 1 more than told) times COST is least")
    private static void promise21_sharesOf0CountAs1() {
        laid(new SwitchDesk(), "abc", 6 + 10 + 14, "(abc)");
    }

    @Says("the sum of SHARE (here each is 1 more than told) times COST is least")
    private static void promise21_sharesOf1000CountAs1001() {
        SwitchDesk x = new SwitchDesk();
        x.share('c', 1000);
        laid(x, "abc", 12 + 16 + 1001 * 10, "((ab)c)");
    }

    @Says("the sum of SHARE (here each is 1 more than told) times COST is least")
    private static void promise21_spanAndPriceAreThoseToldLast() {
        SwitchDesk x = new SwitchDesk();
        x.share('c', 5);
        laid(x, "abc", 12 + 16 + 6 * 10, "((ab)c)");
        x.set(4, 50);
        laid(x, "abc", 54 + 58 + 6 * 62, "(abc)");
        x.set(4, 0);
        x.set(0, 50);
        laid(x, "abc", 100 + 150 + 6 * 100, "((ab)c)");
    }

    @Says("each GROUP with two or more in it")
    private static void promise21_noGroupHasFewerThanTwoInIt() {
        Random chance = new Random(21);
        for (int run = 0; run < 40; run++) {
            SwitchDesk x = desk(chance, run % 3 == 0 ? 0 : 1000, new int[128]);
            Check.lay(x, Check.ALPHABET);
            for (int i = 0; i < x.count(0); i++) {
                Check.due("group " + i, x.told(i, 0) != 0 || x.told(i, 4) >= 2, true);
            }
        }
    }

    // ---- of several trays the first

    @Says("of several the one whose first GROUP or KEY has fewer LETTERS")
    private static void promise21_alikeSumsTheFewerLettersFirst() {
        SwitchDesk x = new SwitchDesk();
        x.set(0, 1);
        x.set(4, 0);
        x.share('c', 1);
        // (abc): 1 + 2 + 2 * 3; ((ab)c): 2 + 3 + 2 * 2.
        laid(x, "abc", 9, "(abc)");
        x.share('c', 2);
        laid(x, "abc", 11, "((ab)c)");
    }

    @Says("then so with what is in it")
    private static void promise21_alikeSumsWithinTheFirstGroup() {
        ties(0);
    }

    @Says("then with what stands behind it")
    private static void promise21_alikeSumsBehindTheFirst() {
        ties(1);
    }

    /** Rows with several least trays that differ first within their first item (0), or behind it (1). */
    private static void ties(int where) {
        Random chance = new Random(5 + where);
        int seen = 0;
        for (int run = 0; run < 3000 && seen < 12; run++) {
            int[] shares = new int[128];
            SwitchDesk x = desk(chance, 3, shares);
            x.set(0, 1);
            x.set(4, 0);
            String row = Check.ALPHABET.substring(0, 5 + chance.nextInt(2));
            Layings all = new Layings(row, shares, 1, 0);
            if (all.tiesDiffer(where)) {
                laid(x, row, all.least(), all.tray());
                seen++;
            }
        }
        Check.due("rows with such ties", seen, 12);
    }

    @Says("Its NODES are numbered as they come: a GROUP, then what is in it.")
    private static void promise21_nodesAreNumberedAsTheyCome() {
        SwitchDesk x = new SwitchDesk();
        x.set(0, 50);
        x.set(4, 0);
        Check.lay(x, "abcdefghi");
        StringBuilder row = new StringBuilder();
        StringBuilder open = new StringBuilder();
        for (int i = 1; i < x.count(0); i++) {
            Check.due("in a group before it", x.told(i, 2) < i, true);
            if (x.told(i, 0) == 1) {
                row.append((char) x.told(i, 1));
            } else {
                Check.due("what is in it comes next", x.told(i + 1, 2), i);
                open.append('(');
            }
        }
        Check.due("letters by number", row.toString(), "abcdefghi");
        Check.due("there are groups", open.length() > 0, true);
        Check.due("brackets by number", byNumber(x), Check.tray(x, 0));
    }

    /** The tray in brackets, read by the nodes' numbers alone. */
    private static String byNumber(SwitchDesk x) {
        StringBuilder s = new StringBuilder("(");
        int at = 0;
        for (int i = 1; i < x.count(0); i++) {
            while (at != x.told(i, 2) && at > 0) {
                s.append(')');
                at = x.told(at, 2);
            }
            if (x.told(i, 0) == 0) {
                s.append('(');
                at = i;
            } else {
                s.append((char) x.told(i, 1));
            }
        }
        while (at > 0) {
            s.append(')');
            at = x.told(at, 2);
        }
        return s.append(')').toString();
    }

    // ---- by chance, against slower ways

    private static String row(Random chance, int n) {
        StringBuilder s = new StringBuilder();
        while (s.length() < n) {
            char c = (char) (97 + chance.nextInt(26));
            if (s.indexOf("" + c) < 0) {
                s.append(c);
            }
        }
        return s.toString();
    }

    private static SwitchDesk desk(Random chance, int most, int[] shares) {
        SwitchDesk x = new SwitchDesk();
        for (int c = 'a'; c <= 'z'; c++) {
            shares[c] = chance.nextInt(most + 1);
            x.share(c, shares[c]);
        }
        return x;
    }

    @Says("none takes fewer ticks")
    private static void promise21_everyTrayOfShortRowsIsTried() {
        Random chance = new Random(7);
        for (int run = 0; run < 401; run++) {
            int span = 1 + chance.nextInt(3);
            int price = chance.nextInt(3);
            int[] shares = new int[128];
            SwitchDesk x = desk(chance, chance.nextInt(2) == 0 ? 3 : 1000, shares);
            x.set(0, span);
            x.set(4, price);
            String row = row(chance, run == 400 ? 7 : 1 + run % 6);
            Layings all = new Layings(row, shares, span, price);
            laid(x, row, all.least(), all.tray());
        }
    }

    @Says("none takes fewer ticks")
    private static void promise21_longRowsByPlaces() {
        Random chance = new Random(8);
        for (int run = 0; run < 60; run++) {
            int span = 1 + chance.nextInt(50);
            int price = chance.nextInt(51);
            int[] shares = new int[128];
            SwitchDesk x = desk(chance, chance.nextInt(2) == 0 ? 20 : 1000, shares);
            x.set(0, span);
            x.set(4, price);
            String row = row(chance, 8 + chance.nextInt(19));
            long least = Check.lay(x, row);
            Check.due("least of " + row, least, leastByPlaces(row, shares, span, price));
            long sum = 0;
            for (int i = 1; i < x.count(0); i++) {
                sum += x.told(i, 0) == 1 ? (shares[x.told(i, 1)] + 1L) * x.cost(i) : 0;
            }
            Check.due("sum of " + row, sum, least);
            Check.due("letters of " + row, Check.tray(x, 0).replaceAll("[()]", ""), row);
        }
    }

    /** least[p][a][b]: letters a .. b at places p on, one item or more; each item at its own place's cost. */
    private static long leastByPlaces(String row, int[] shares, int span, int price) {
        int n = row.length();
        long[] sums = new long[n + 1];
        for (int i = 0; i < n; i++) {
            sums[i + 1] = sums[i] + shares[row.charAt(i)] + 1;
        }
        long[][][] least = new long[n + 2][n + 1][n + 1];
        long[][] inside = new long[n + 1][n + 1];
        for (int size = 1; size <= n; size++) {
            for (int a = 0; a + size <= n; a++) {
                int b = a + size;
                inside[a][b] = size == 1 ? 0 : Long.MAX_VALUE;
                for (int c = a + 1; c < b; c++) {
                    long two = (sums[c] - sums[a]) * (span + price) + inside[a][c] + least[2][c][b];
                    inside[a][b] = Math.min(inside[a][b], two);
                }
                for (int p = 1; p <= n; p++) {
                    long one = (sums[b] - sums[a]) * (span * p + price) + inside[a][b];
                    for (int c = a + 1; c < b && p < n; c++) {
                        one = Math.min(one, (sums[c] - sums[a]) * (span * p + price) + inside[a][c] + least[p + 1][c][b]);
                    }
                    least[p][a][b] = one;
                }
            }
        }
        return n == 1 ? least[1][0][1] : inside[0][n];
    }
}
