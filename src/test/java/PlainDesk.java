import java.util.ArrayList;
import java.util.List;

/**
 * The document said again as slowly and plainly as can be, to compare with: every tick by itself,
 * every text kept whole, every tray tried.
 */
final class PlainDesk {
    final List<int[]> nodes = new ArrayList<>();
    final int[] numbers = {4, 2, 0, 0, 2};
    final List<String> words = new ArrayList<>();
    final List<Integer> counts = new ArrayList<>();
    final List<String[]> acts = new ArrayList<>();
    final int[] shares = new int[128];
    String tape = "";
    String text = "";
    String said = null;
    int now = 0;
    int group = 0;
    int place = 0;
    int before = -1;
    int changed = 0;
    int rounds = 0;
    int presses = 0;
    int lastPress = -1000;

    PlainDesk() {
        nodes.add(new int[] {-1, 0, -1});
    }

    boolean hasKey(int node) {
        if (nodes.get(node)[1] != 0) {
            return true;
        }
        for (int i = 1; i < nodes.size(); i++) {
            if (nodes.get(i)[0] == node && hasKey(i)) {
                return true;
            }
        }
        return false;
    }

    List<Integer> lights(int of) {
        List<Integer> all = new ArrayList<>();
        for (int i = 1; i < nodes.size(); i++) {
            if (nodes.get(i)[0] == of && hasKey(i)) {
                all.add(i);
            }
        }
        return all;
    }

    int lit() {
        List<Integer> all = lights(group);
        return all.isEmpty() ? -1 : all.get(place);
    }

    void come(int to) {
        group = to;
        place = 0;
        before = -1;
        changed = now;
        rounds = 0;
    }

    static boolean az(int c) {
        return c >= 'a' && c <= 'z';
    }

    int node(int in, int kind, int value) {
        if (nodes.size() == 60 || in < 0 || in >= nodes.size() || nodes.get(in)[1] != 0 || kind < 0 || kind > 6) {
            return -1;
        }
        if (kind == 1 && !az(value) && value != 32) {
            return -1;
        }
        if ((kind == 4 || kind == 6) && (value < 0 || value > 4)) {
            return -1;
        }
        nodes.add(new int[] {in, kind, kind == 1 || kind == 4 || kind == 6 ? value : -1});
        come(0);
        return nodes.size() - 1;
    }

    void clear() {
        while (nodes.size() > 1) {
            nodes.remove(nodes.size() - 1);
        }
        come(0);
    }

    int told(int node, int what) {
        if (node < 0 || node >= nodes.size() || what < 0 || what > 4) {
            return -1;
        }
        int[] n = nodes.get(node);
        int at = node == 0 ? -1 : lights(n[0]).indexOf(node);
        return new int[] {n[1], n[2], n[0], at < 0 ? -1 : at + 1, lights(node).size()}[what];
    }

    boolean set(int which, int v) {
        int[][] bounds = {{1, 50}, {1, 9}, {0, 20}, {0, 20}, {0, 50}};
        if (which < 0 || which > 4 || v < bounds[which][0] || v > bounds[which][1]) {
            return false;
        }
        numbers[which] = v;
        return true;
    }

    int tick(int n) {
        if (n < 0 || n > 1000 || now + n > 1000000) {
            return -2;
        }
        int lights = lights(group).size();
        for (int i = 0; i < n; i++) {
            now++;
            if (lights > 0 && now - changed >= numbers[0]) {
                int was = lit();
                place++;
                changed = now;
                if (place == lights) {
                    place = 0;
                    rounds++;
                    if (group != 0 && rounds >= numbers[1]) {
                        come(0);
                        lights = lights(0).size();
                        continue;
                    }
                }
                before = was;
            }
        }
        return lit();
    }

    int press() {
        if (lit() < 0 || now - lastPress < numbers[3]) {
            return -1;
        }
        presses++;
        lastPress = now;
        int taken = now - changed < numbers[2] && before >= 0 ? before : lit();
        if (nodes.get(taken)[1] == 0) {
            come(taken);
        } else {
            act(nodes.get(taken)[1], nodes.get(taken)[2]);
            come(0);
        }
        return taken;
    }

    void act(int kind, int value) {
        String newText = text;
        String newSaid = said;
        if (kind == 3) {
            if (!acts.isEmpty()) {
                String[] was = acts.remove(acts.size() - 1);
                text = was[0];
                said = was[1];
            }
            return;
        }
        if (kind == 1) {
            newText = text + (char) value;
        } else if (kind == 2 && !text.isEmpty()) {
            newText = text.substring(0, text.length() - 1);
        } else if (kind == 4 && value < foreseen().size()) {
            newText = text + words.get(foreseen().get(value)).substring(written().length()) + " ";
        } else if (kind == 5) {
            newSaid = text;
            newText = "";
        } else if (kind == 6 && value < offered().size()) {
            newText = text.substring(0, text.length() - written().length()) + words.get(offered().get(value));
        }
        boolean same = newText.equals(text) && (newSaid == null ? said == null : newSaid.equals(said));
        if (newText.length() > 200 || same) {
            return;
        }
        acts.add(new String[] {text, said});
        if (acts.size() > 100) {
            acts.remove(0);
        }
        text = newText;
        said = newSaid;
    }

    String written() {
        int from = text.length();
        while (from > 0 && az(text.charAt(from - 1))) {
            from--;
        }
        return text.substring(from);
    }

    List<Integer> foreseen() {
        List<Integer> all = new ArrayList<>();
        for (int w = 0; w < words.size(); w++) {
            if (words.get(w).startsWith(written()) && words.get(w).length() > written().length()) {
                all.add(w);
            }
        }
        all.sort((a, b) -> a.equals(b) ? 0 : counts.get(a).equals(counts.get(b)) ? a - b : counts.get(b) - counts.get(a));
        return all;
    }

    int slips(int w) {
        String written = written();
        String word = words.get(w);
        if (word.length() != written.length()) {
            return 99;
        }
        int n = 0;
        for (int i = 0; i < word.length(); i++) {
            if (word.charAt(i) != written.charAt(i)) {
                n += near(word.charAt(i), written.charAt(i)) == 1 ? 1 : 99;
            }
        }
        return n;
    }

    List<Integer> offered() {
        List<Integer> all = new ArrayList<>();
        if (written().isEmpty() || words.contains(written())) {
            return all;
        }
        for (int w = 0; w < words.size(); w++) {
            if (slips(w) <= 2) {
                all.add(w);
            }
        }
        all.sort((a, b) -> slips(a) != slips(b) ? slips(a) - slips(b)
            : counts.get(a).equals(counts.get(b)) ? a - b : counts.get(b) - counts.get(a));
        return all;
    }

    int near(int one, int other) {
        if (!az(one) || !az(other)) {
            return -1;
        }
        for (int g = 0; g < nodes.size(); g++) {
            List<Integer> all = lights(g);
            for (int i = 1; i < all.size(); i++) {
                int[] p = nodes.get(all.get(i - 1));
                int[] q = nodes.get(all.get(i));
                boolean keys = p[1] == 1 && q[1] == 1;
                if (keys && (p[2] == one && q[2] == other || p[2] == other && q[2] == one)) {
                    return 1;
                }
            }
        }
        return 0;
    }

    int state(int what) {
        if (what < 0 || what > 7) {
            return -1;
        }
        return new int[] {now, group, lit(), before, changed, rounds, presses, acts.size()}[what];
    }

    int length(int what) {
        return what == 0 ? text.length() : what == 1 && said != null ? said.length() : -1;
    }

    long at(int what, int i) {
        String s = what == 0 ? text : what == 1 ? said : null;
        return s == null || i < 0 || i >= s.length() ? Check.NO_SUCH : s.charAt(i);
    }

    int feed(int one, int other) {
        StringBuilder s = new StringBuilder(tape);
        for (int shift = 56; shift >= 0; shift -= 8) {
            char c = (char) (((long) one << 32 | other & 0xffffffffL) >> shift & 255);
            if (c != 0) {
                s.append(c);
            }
        }
        if (s.length() > 26) {
            return -1;
        }
        tape = s.toString();
        return tape.length();
    }

    boolean end(int n) {
        if (n < 0 || n > tape.length()) {
            return false;
        }
        tape = tape.substring(0, n);
        return true;
    }

    int word(int count) {
        int w = words.indexOf(tape);
        if (!tape.matches("[a-z]{1,12}") || count < 0 || count > 10000 || w < 0 && words.size() == 40) {
            return -1;
        }
        if (w < 0) {
            w = words.size();
            words.add(tape);
            counts.add(0);
        }
        counts.set(w, count);
        tape = "";
        return w;
    }

    long letter(int w, int i) {
        boolean there = w >= 0 && w < words.size() && i >= 0 && i < words.get(w).length();
        return there ? words.get(w).charAt(i) : Check.NO_SUCH;
    }

    boolean share(int letter, int v) {
        if (!az(letter) || v < 0 || v > 1000) {
            return false;
        }
        shares[letter] = v;
        return true;
    }

    int cost(int node) {
        if (node < 1 || node >= nodes.size() || !hasKey(node)) {
            return -1;
        }
        int own = numbers[0] * (lights(nodes.get(node)[0]).indexOf(node) + 1) + numbers[4];
        return own + Math.max(0, cost(nodes.get(node)[0]));
    }

    long mean(int what) {
        long sum = 0;
        long all = 0;
        for (int c = 'a'; c <= 'z'; c++) {
            if (shares[c] > 0) {
                long least = -1;
                for (int i = 1; i < nodes.size(); i++) {
                    if (nodes.get(i)[1] == 1 && nodes.get(i)[2] == c && (least < 0 || cost(i) < least)) {
                        least = cost(i);
                    }
                }
                if (least < 0) {
                    return -1;
                }
                sum += shares[c] * least;
                all += shares[c];
            }
        }
        if (all == 0 || what < 0 || what > 1) {
            return -1;
        }
        long d = all;
        while (sum % d != 0 || all % d != 0) {
            d--;
        }
        return (what == 0 ? sum : all) / d;
    }

    int lay() {
        if (!tape.matches("[a-z]{1,26}") || tape.chars().distinct().count() != tape.length()) {
            return -1;
        }
        Layings best = new Layings(tape, shares, numbers[0], numbers[4]);
        int least = best.least();
        clear();
        build(best.tray(), 0, 1);
        tape = "";
        return least;
    }

    /** Reads a tray in brackets from behind its first one; how far it came. */
    int build(String tray, int in, int from) {
        int i = from;
        while (tray.charAt(i) != ')') {
            if (tray.charAt(i) == '(') {
                i = build(tray, node(in, 0, 0), i + 1);
            } else {
                node(in, 1, tray.charAt(i));
                i++;
            }
        }
        return i + 1;
    }

    int count(int what) {
        if (what < 0 || what > 5) {
            return -1;
        }
        return new int[] {nodes.size(), words.size(), tape.length(), written().length(), foreseen().size(),
            offered().size()}[what];
    }
}
