import java.util.Random;

/** Laying against every tray of short rows, and against a slow count by places for long ones. */
public final class LayTest {
    private static final Random CHANCE = new Random(7);

    public static void main(String[] args) {
        for (int i = 0; i < 400; i++) {
            shortRow(1 + i % 6);
        }
        shortRow(7);
        for (int i = 0; i < 60; i++) {
            longRow(8 + CHANCE.nextInt(19));
        }
        Check.close();
    }

    private static String row(int n) {
        StringBuilder s = new StringBuilder();
        while (s.length() < n) {
            char c = (char) (97 + CHANCE.nextInt(26));
            if (s.indexOf("" + c) < 0) {
                s.append(c);
            }
        }
        return s.toString();
    }

    private static SwitchDesk desk(int span, int price, int most, int[] shares) {
        SwitchDesk x = new SwitchDesk();
        x.set(0, span);
        x.set(4, price);
        for (int c = 'a'; c <= 'z'; c++) {
            shares[c] = CHANCE.nextInt(most + 1);
            x.share(c, shares[c]);
        }
        return x;
    }

    private static void shortRow(int n) {
        int span = 1 + CHANCE.nextInt(3);
        int price = CHANCE.nextInt(3);
        int[] shares = new int[128];
        SwitchDesk x = desk(span, price, CHANCE.nextInt(2) == 0 ? 3 : 1000, shares);
        String row = row(n);
        Layings all = new Layings(row, shares, span, price);
        Check.due("least of " + row, Check.lay(x, row), all.least());
        Check.due("tray of " + row, Check.tray(x, 0), all.tray());
    }

    private static void longRow(int n) {
        int span = 1 + CHANCE.nextInt(50);
        int price = CHANCE.nextInt(51);
        int[] shares = new int[128];
        SwitchDesk x = desk(span, price, CHANCE.nextInt(2) == 0 ? 20 : 1000, shares);
        String row = row(n);
        long least = Check.lay(x, row);
        Check.due("least of " + row, least, leastByPlaces(row, shares, span, price));
        long sum = 0;
        for (int i = 1; i < x.count(0); i++) {
            sum += x.told(i, 0) == 1 ? (shares[x.told(i, 1)] + 1L) * x.cost(i) : 0;
        }
        Check.due("sum of " + row, sum, least);
        Check.due("letters of " + row, Check.tray(x, 0).replaceAll("[()]", ""), row);
    }

    /** least[p][a][b]: letters a .. b at places p on, one item or more; each item at its own place's cost. */
    private static long leastByPlaces(String row, int[] shares, int span, int price) {
        int n = row.length();
        long[] sums = new long[n + 1];
        for (int i = 0; i < n; i++) {
            sums[i + 1] = sums[i] + shares[row.charAt(i)] + 1;
        }
        long[][][] least = new long[n + 2][n + 1][n + 1];
        long[][] inside = new long[n + 1][n + 1];
        for (int size = 1; size <= n; size++) {
            for (int a = 0; a + size <= n; a++) {
                int b = a + size;
                inside[a][b] = size == 1 ? 0 : Long.MAX_VALUE;
                for (int c = a + 1; c < b; c++) {
                    long two = (sums[c] - sums[a]) * (span + price) + inside[a][c] + least[2][c][b];
                    inside[a][b] = Math.min(inside[a][b], two);
                }
                for (int p = 1; p <= n; p++) {
                    long one = (sums[b] - sums[a]) * (span * p + price) + inside[a][b];
                    for (int c = a + 1; c < b && p < n; c++) {
                        one = Math.min(one, (sums[c] - sums[a]) * (span * p + price) + inside[a][c] + least[p + 1][c][b]);
                    }
                    least[p][a][b] = one;
                }
            }
        }
        return n == 1 ? least[1][0][1] : inside[0][n];
    }
}
