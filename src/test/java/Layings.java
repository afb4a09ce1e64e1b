import java.util.ArrayList;
import java.util.List;

/** Every tray of a short row, in brackets, and the least of them; no tray is left out by reasoning. */
final class Layings {
    private final int[] shares;
    private final int span;
    private final int price;
    private final List<String> bests = new ArrayList<>();
    private String best = null;
    private int least = 0;

    Layings(String row, int[] shares, int span, int price) {
        this.shares = shares;
        this.span = span;
        this.price = price;
        for (List<String> items : rows(row)) {
            if (items.size() >= 2 || row.length() == 1) {
                offer("(" + String.join("", items) + ")");
            }
        }
    }

    private void offer(String tray) {
        int sum = sum(tray);
        if (best != null && sum < least) {
            bests.clear();
        }
        if (best == null || sum <= least) {
            bests.add(tray);
        }
        if (best == null || sum < least || sum == least && before(items(tray), items(best)) < 0) {
            best = tray;
            least = sum;
        }
    }

    int least() {
        return least;
    }

    String tray() {
        return best;
    }

    /** Whether another least tray has a first item of as many letters, but not the same (0), or the same and another rest (1). */
    boolean tiesDiffer(int where) {
        String first = items(best).get(0);
        for (String other : bests) {
            String otherFirst = items(other).get(0);
            boolean differ = where == 0 ? count(otherFirst) == count(first) && !otherFirst.equals(first)
                : otherFirst.equals(first) && !other.equals(best);
            if (differ) {
                return true;
            }
        }
        return false;
    }

    /** All rows of keys and groups that have these letters; a group has two or more in it. */
    static List<List<String>> rows(String letters) {
        List<List<String>> all = new ArrayList<>();
        if (letters.isEmpty()) {
            all.add(new ArrayList<>());
        }
        for (int n = 1; n <= letters.length(); n++) {
            for (String first : firsts(letters.substring(0, n))) {
                for (List<String> rest : rows(letters.substring(n))) {
                    List<String> one = new ArrayList<>();
                    one.add(first);
                    one.addAll(rest);
                    all.add(one);
                }
            }
        }
        return all;
    }

    private static List<String> firsts(String letters) {
        List<String> all = new ArrayList<>();
        if (letters.length() == 1) {
            all.add(letters);
            return all;
        }
        for (int n = 1; n < letters.length(); n++) {
            for (String first : firsts(letters.substring(0, n))) {
                for (List<String> rest : rows(letters.substring(n))) {
                    all.add("(" + first + String.join("", rest) + ")");
                }
            }
        }
        return all;
    }

    private int sum(String tray) {
        int sum = 0;
        int[] places = new int[30];
        int depth = 0;
        for (char c : tray.toCharArray()) {
            if (c == ')') {
                depth--;
                continue;
            }
            places[depth]++;
            if (c == '(') {
                depth++;
                places[depth] = 0;
            } else {
                for (int d = 1; d <= depth; d++) {
                    sum += (shares[c] + 1) * (span * places[d] + price);
                }
            }
        }
        return sum;
    }

    static List<String> items(String group) {
        List<String> all = new ArrayList<>();
        int depth = 0;
        int from = 1;
        for (int i = 1; i < group.length() - 1; i++) {
            depth += group.charAt(i) == '(' ? 1 : group.charAt(i) == ')' ? -1 : 0;
            if (depth == 0) {
                all.add(group.substring(from, i + 1));
                from = i + 1;
            }
        }
        return all;
    }

    /** Below 0: the first comes before: by letters of its first, then what is in it, then the rest. */
    static int before(List<String> one, List<String> other) {
        if (one.isEmpty() || other.isEmpty()) {
            return 0;
        }
        int letters = count(one.get(0)) - count(other.get(0));
        if (letters != 0) {
            return letters;
        }
        if (one.get(0).length() > 1) {
            int inside = before(items(one.get(0)), items(other.get(0)));
            if (inside != 0) {
                return inside;
            }
        }
        return before(one.subList(1, one.size()), other.subList(1, other.size()));
    }

    private static int count(String item) {
        return item.replaceAll("[()]", "").length();
    }
}
