import java.util.Arrays;
import java.util.NoSuchElementException;

/** A writing desk for one switch; shared/DOC.md says what each call promises. */
public final class SwitchDesk {
    public static final int NONE = -1;

    private static final int WRONG_TICKS = -2;

    private static final int GROUP = 0;
    private static final int LETTER = 1;
    private static final int BACK = 2;
    private static final int UNDO = 3;
    private static final int FORESEEN = 4;
    private static final int SAY = 5;
    private static final int OFFERED = 6;

    private static final int SPAN = 0;
    private static final int ROUNDS = 1;
    private static final int LATE = 2;
    private static final int DOUBLE = 3;
    private static final int PRICE = 4;

    private static final int SPACE = 32;
    private static final int FIRST_LETTER = 97;
    private static final int LETTERS = 26;
    private static final int WORD_LETTERS = 12;

    private final Numbers numbers;
    private final Tray tray;
    private final Lamp lamp;
    private final Sheet sheet;
    private final Tape tape;
    private final Book book;
    private final Finder finder;
    private final Shares shares;
    private final Plan plan;

    public SwitchDesk() {
        numbers = new Numbers();
        tray = new Tray();
        lamp = new Lamp(tray, numbers);
        sheet = new Sheet();
        tape = new Tape();
        book = new Book();
        finder = new Finder(book, tray, sheet);
        shares = new Shares(tray, numbers);
        plan = new Plan(tape, numbers);
    }

    public int node(int group, int kind, int value) {
        int number = tray.add(group, kind, value);
        if (number != NONE) {
            showTrayAnew();
        }
        return number;
    }

    public void clear() {
        tray.empty();
        showTrayAnew();
    }

    public int told(int node, int what) {
        if (!tray.has(node)) {
            return NONE;
        }
        switch (what) {
            case 0:
                return tray.kindOf(node);
            case 1:
                return tray.valueOf(node);
            case 2:
                return tray.groupOf(node);
            case 3:
                return tray.placeOf(node);
            case 4:
                return tray.lightsOf(node);
            default:
                return NONE;
        }
    }

    public boolean set(int which, int v) {
        return numbers.change(which, v);
    }

    public int tick(int n) {
        return lamp.pass(n);
    }

    public int press() {
        int taken = lamp.take();
        if (taken == NONE) {
            return NONE;
        }
        if (tray.kindOf(taken) == GROUP) {
            lamp.comeTo(taken);
        } else {
            act(taken);
            lamp.comeTo(0);
        }
        return taken;
    }

    public int state(int what) {
        return what == 7 ? sheet.undoable() : lamp.tell(what);
    }

    public int length(int what) {
        Chain asked = sheet.part(what);
        return asked == null ? NONE : asked.size;
    }

    public int at(int what, int i) throws NoSuchElementException {
        Chain asked = sheet.part(what);
        if (asked == null || i < 0 || i >= asked.size) {
            throw new NoSuchElementException();
        }
        return asked.signAt(i);
    }

    public int feed(int one, int other) {
        return tape.take(one, other);
    }

    public boolean end(int n) {
        return tape.cut(n);
    }

    public int word(int count) {
        int number = book.take(tape, count);
        if (number != NONE) {
            tape.cut(0);
        }
        return number;
    }

    public int letter(int w, int i) throws NoSuchElementException {
        if (i < 0 || i >= book.sizeOf(w)) {
            throw new NoSuchElementException();
        }
        return book.signOf(w, i);
    }

    public int foreseen(int k) {
        finder.seekForeseen();
        return finder.foundAt(k);
    }

    public int offered(int k) {
        finder.seekOffered();
        return finder.foundAt(k);
    }

    public int near(int one, int other) {
        if (!isLetter(one) || !isLetter(other)) {
            return NONE;
        }
        return tray.areNeighbours(one, other) ? 1 : 0;
    }

    public boolean share(int letter, int v) {
        return shares.change(letter, v);
    }

    public int cost(int node) {
        return shares.costOf(node);
    }

    public long mean(int what) {
        return shares.meanPart(what);
    }

    public int lay() {
        if (!tape.isRow()) {
            return NONE;
        }
        int least = plan.solve(shares);
        tray.empty();
        plan.build(tray);
        tape.cut(0);
        showTrayAnew();
        return least;
    }

    public int count(int what) {
        switch (what) {
            case 0:
                return tray.size();
            case 1:
                return book.size();
            case 2:
                return tape.size();
            case 3:
                return sheet.written();
            case 4:
                finder.seekForeseen();
                return finder.found();
            case 5:
                finder.seekOffered();
                return finder.found();
            default:
                return NONE;
        }
    }

    private void showTrayAnew() {
        tray.findLights();
        lamp.comeTo(0);
    }

    private void act(int key) {
        int value = tray.valueOf(key);
        switch (tray.kindOf(key)) {
            case LETTER:
                sheet.write(value);
                break;
            case BACK:
                sheet.dropLast();
                break;
            case UNDO:
                sheet.takeBack();
                break;
            case SAY:
                sheet.speak();
                break;
            case FORESEEN:
                finder.seekForeseen();
                sheet.complete(book, finder.foundAt(value), true);
                break;
            case OFFERED:
                finder.seekOffered();
                sheet.complete(book, finder.foundAt(value), false);
                break;
            default:
                break;
        }
    }

    private static boolean isLetter(int sign) {
        return sign >= FIRST_LETTER && sign < FIRST_LETTER + LETTERS;
    }

    private static boolean within(int v, int lowest, int highest) {
        return v >= lowest && v <= highest;
    }

    /** The five numbers that may be told, by SPAN .. PRICE. */
    private static final class Numbers {
        private static final int[] LOWEST = {1, 1, 0, 0, 0};
        private static final int[] HIGHEST = {50, 9, 20, 20, 50};

        private final int[] values = {4, 2, 0, 0, 2};

        boolean change(int which, int v) {
            if (!within(which, SPAN, PRICE) || !within(v, LOWEST[which], HIGHEST[which])) {
                return false;
            }
            values[which] = v;
            return true;
        }

        int get(int which) {
            return within(which, SPAN, PRICE) ? values[which] : 0;
        }
    }

    /**
     * The nodes, and what follows from them. A node is told behind its group and behind what is in
     * that group, so numbers alone give the order among lights, and one pass settles each question.
     */
    private static final class Tray {
        private static final int MOST = 60;
        private static final int MOST_CHOICE = 4;

        private final int[] kinds = new int[MOST];
        private final int[] values = new int[MOST];
        private final int[] groups = new int[MOST];
        private final int[] places = new int[MOST];
        private final int[] lights = new int[MOST];
        private final int[] firsts = new int[MOST];
        private final int[] lasts = new int[MOST];
        private final int[] nexts = new int[MOST];
        private final boolean[] lighted = new boolean[MOST];
        private final int[] neighbours = new int[LETTERS];
        private int size;

        Tray() {
            empty();
            findLights();
        }

        void empty() {
            kinds[0] = GROUP;
            values[0] = NONE;
            groups[0] = NONE;
            size = 1;
        }

        /** The caller has the lights found anew when all it adds is there. */
        int add(int group, int kind, int value) {
            if (size >= MOST || kindOf(group) != GROUP || !takes(kind, value)) {
                return NONE;
            }
            kinds[size] = kind;
            values[size] = hasValue(kind) ? value : NONE;
            groups[size] = group;
            size++;
            return size - 1;
        }

        private static boolean takes(int kind, int value) {
            if (kind == LETTER) {
                return isLetter(value) || value == SPACE;
            }
            return within(kind, GROUP, OFFERED) && (!hasValue(kind) || within(value, 0, MOST_CHOICE));
        }

        private static boolean hasValue(int kind) {
            return kind == LETTER || kind == FORESEEN || kind == OFFERED;
        }

        void findLights() {
            findLighted();
            Arrays.fill(lights, 0);
            Arrays.fill(places, NONE);
            Arrays.fill(firsts, NONE);
            Arrays.fill(lasts, NONE);
            Arrays.fill(nexts, NONE);
            Arrays.fill(neighbours, 0);
            for (int i = 1; i < size; i++) {
                if (lighted[i] && has(groups[i])) {
                    standBehind(i, groups[i]);
                }
            }
        }

        // From the last to the first, so that each group is asked when all in it is settled.
        private void findLighted() {
            for (int i = 0; i < size; i++) {
                lighted[i] = kinds[i] != GROUP;
            }
            for (int i = size - 1; i > 0; i--) {
                if (lighted[i] && has(groups[i])) {
                    lighted[groups[i]] = true;
                }
            }
        }

        private void standBehind(int node, int group) {
            int last = lasts[group];
            lights[group]++;
            places[node] = lights[group];
            lasts[group] = node;
            if (has(last)) {
                nexts[last] = node;
                join(last, node);
            } else {
                firsts[group] = node;
            }
        }

        private void join(int one, int other) {
            if (kinds[one] == LETTER && kinds[other] == LETTER && isLetter(values[one]) && isLetter(values[other])) {
                int a = values[one] - FIRST_LETTER;
                int b = values[other] - FIRST_LETTER;
                neighbours[a] |= 1 << b;
                neighbours[b] |= 1 << a;
            }
        }

        boolean has(int node) {
            return node >= 0 && node < size;
        }

        int size() {
            return size;
        }

        int kindOf(int node) {
            return has(node) ? kinds[node] : NONE;
        }

        int valueOf(int node) {
            return has(node) ? values[node] : NONE;
        }

        int groupOf(int node) {
            return has(node) ? groups[node] : NONE;
        }

        int placeOf(int node) {
            return has(node) ? places[node] : NONE;
        }

        int lightsOf(int node) {
            return has(node) ? lights[node] : 0;
        }

        int firstIn(int group) {
            return has(group) ? firsts[group] : NONE;
        }

        int behind(int node) {
            return has(node) ? nexts[node] : NONE;
        }

        boolean areNeighbours(int one, int other) {
            return isLetter(one) && isLetter(other)
                && (neighbours[one - FIRST_LETTER] >> (other - FIRST_LETTER) & 1) == 1;
        }
    }

    /** What is lit, and since when; which presses count, and what they take. */
    private static final class Lamp {
        private static final int MOST_TICKS = 1000;
        private static final int LAST_TICK = 1000000;

        private final Tray tray;
        private final Numbers numbers;
        private int now;
        private int group;
        private int lit;
        private int before;
        private int changed;
        private int rounds;
        private int presses;
        private int lastPress;

        Lamp(Tray tray, Numbers numbers) {
            this.tray = tray;
            this.numbers = numbers;
            comeTo(0);
        }

        void comeTo(int newGroup) {
            group = newGroup;
            lit = tray.firstIn(newGroup);
            before = NONE;
            changed = now;
            rounds = 0;
        }

        int pass(int n) {
            if (!within(n, 0, MOST_TICKS) || now > LAST_TICK - n) {
                return WRONG_TICKS;
            }
            int goal = now + n;
            // Nothing happens between changes, so each step goes to the next one at once.
            for (int i = 0; i < n && now < goal; i++) {
                int due = Math.max(now + 1, changed + numbers.get(SPAN));
                if (lit == NONE || due > goal) {
                    now = goal;
                } else {
                    now = due;
                    change();
                }
            }
            return lit;
        }

        private void change() {
            int next = tray.behind(lit);
            if (next == NONE) {
                rounds++;
                if (group != 0 && rounds >= numbers.get(ROUNDS)) {
                    comeTo(0);
                    return;
                }
                next = tray.firstIn(group);
            }
            before = lit;
            lit = next;
            changed = now;
        }

        /** The node that a press at this tick takes, if it counts. */
        int take() {
            if (lit == NONE || (presses > 0 && now - lastPress < numbers.get(DOUBLE))) {
                return NONE;
            }
            presses++;
            lastPress = now;
            boolean late = before != NONE && now - changed < numbers.get(LATE);
            return late ? before : lit;
        }

        int tell(int what) {
            switch (what) {
                case 0:
                    return now;
                case 1:
                    return group;
                case 2:
                    return lit;
                case 3:
                    return before;
                case 4:
                    return changed;
                case 5:
                    return rounds;
                case 6:
                    return presses;
                default:
                    return NONE;
            }
        }
    }

    /**
     * A row of bytes that never changes: one byte behind another row. Rows share what they have
     * alike, so an earlier text is kept whole for the price of one reference.
     */
    private static final class Chain {
        final Chain before;
        final int sign;
        final int size;

        Chain(Chain before, int sign) {
            this.before = before;
            this.sign = sign;
            this.size = before == null ? 0 : before.size + 1;
        }

        /** This row without its last bytes; the whole row has no fewer than those. */
        Chain without(int bytes) {
            Chain row = this;
            for (int i = 0; i < bytes && row.before != null; i++) {
                row = row.before;
            }
            return row;
        }

        int signAt(int i) {
            return without(size - 1 - i).sign;
        }
    }

    /** THE TEXT, what was SAID, and both as they were before each of the latest acts. */
    private static final class Sheet {
        private static final int MOST_BYTES = 200;
        private static final int MOST_ACTS = 100;

        private final Chain empty = new Chain(null, 0);
        private final Chain[] oldTexts = new Chain[MOST_ACTS];
        private final Chain[] oldSaids = new Chain[MOST_ACTS];
        private int oldest;
        private int kept;
        private Chain text = empty;
        // null as long as nothing was said, which is not the same as an empty text said.
        private Chain said;

        Chain part(int what) {
            if (what == 0) {
                return text;
            }
            return what == 1 ? said : null;
        }

        int undoable() {
            return kept;
        }

        int written() {
            Chain row = text;
            int letters = 0;
            while (letters < MOST_BYTES && row.before != null && isLetter(row.sign)) {
                row = row.before;
                letters++;
            }
            return letters;
        }

        /** Puts the last letters into a row, in their order; they are no more than it holds. */
        void copyLast(int letters, int[] row) {
            Chain rest = text;
            for (int i = letters - 1; i >= 0 && i < row.length && rest.before != null; i--) {
                row[i] = rest.sign;
                rest = rest.before;
            }
        }

        void write(int sign) {
            if (text.size < MOST_BYTES) {
                keep();
                text = new Chain(text, sign);
            }
        }

        void dropLast() {
            if (text.size > 0) {
                keep();
                text = text.without(1);
            }
        }

        void speak() {
            if (text.size > 0 || said == null || said.size > 0) {
                keep();
                said = text;
                text = empty;
            }
        }

        /** Puts a word of the book instead of what is written, which may be its own beginning. */
        void complete(Book book, int w, boolean spaceBehind) {
            int letters = book.sizeOf(w);
            int written = written();
            if (letters == 0 || text.size - written + letters + (spaceBehind ? 1 : 0) > MOST_BYTES) {
                return;
            }
            keep();
            text = text.without(written);
            for (int i = 0; i < letters; i++) {
                text = new Chain(text, book.signOf(w, i));
            }
            if (spaceBehind) {
                text = new Chain(text, SPACE);
            }
        }

        void takeBack() {
            if (kept > 0) {
                kept--;
                int slot = (oldest + kept) % MOST_ACTS;
                text = oldTexts[slot] == null ? empty : oldTexts[slot];
                said = oldSaids[slot];
            }
        }

        private void keep() {
            int slot = (oldest + kept) % MOST_ACTS;
            oldTexts[slot] = text;
            oldSaids[slot] = said;
            if (kept < MOST_ACTS) {
                kept++;
            } else {
                oldest = (oldest + 1) % MOST_ACTS;
            }
        }
    }

    /** The letters that were fed, for the next word or laying. */
    private static final class Tape {
        private static final int MOST = 26;
        private static final int FED = 8;

        private final int[] signs = new int[MOST];
        private int size;

        int take(int one, int other) {
            int more = 0;
            for (int i = 0; i < FED; i++) {
                if (fedByte(one, other, i) != 0) {
                    more++;
                }
            }
            if (size + more > MOST) {
                return NONE;
            }
            for (int i = 0; i < FED && size < MOST; i++) {
                int sign = fedByte(one, other, i);
                if (sign != 0) {
                    signs[size] = sign;
                    size++;
                }
            }
            return size;
        }

        private static int fedByte(int one, int other, int i) {
            int number = i < 4 ? one : other;
            return number >>> (24 - 8 * (i & 3)) & 255;
        }

        boolean cut(int n) {
            if (!within(n, 0, size)) {
                return false;
            }
            size = n;
            return true;
        }

        int size() {
            return size;
        }

        int signAt(int i) {
            return i >= 0 && i < size ? signs[i] : 0;
        }

        boolean isWord() {
            return size <= WORD_LETTERS && lettersAlone();
        }

        /** Whether it can be laid: letters, all unlike. */
        boolean isRow() {
            if (!lettersAlone()) {
                return false;
            }
            int seen = 0;
            for (int i = 0; i < size; i++) {
                int bit = 1 << (signs[i] - FIRST_LETTER);
                if ((seen & bit) != 0) {
                    return false;
                }
                seen |= bit;
            }
            return true;
        }

        private boolean lettersAlone() {
            for (int i = 0; i < size; i++) {
                if (!isLetter(signs[i])) {
                    return false;
                }
            }
            return size > 0;
        }
    }

    /** The words and their counts, numbered as told. */
    private static final class Book {
        private static final int MOST = 40;
        private static final int MOST_COUNT = 10000;

        private final int[] signs = new int[MOST * WORD_LETTERS];
        private final int[] sizes = new int[MOST];
        private final int[] counts = new int[MOST];
        private int size;

        int take(Tape tape, int times) {
            if (!within(times, 0, MOST_COUNT) || !tape.isWord()) {
                return NONE;
            }
            int w = find(tape.signs, tape.size());
            if (w == NONE) {
                w = add(tape);
            }
            if (has(w)) {
                counts[w] = times;
            }
            return w;
        }

        private int add(Tape tape) {
            if (size >= MOST) {
                return NONE;
            }
            int letters = Math.min(tape.size(), WORD_LETTERS);
            for (int i = 0; i < letters; i++) {
                signs[size * WORD_LETTERS + i] = tape.signAt(i);
            }
            sizes[size] = letters;
            size++;
            return size - 1;
        }

        int find(int[] row, int letters) {
            for (int w = 0; w < size; w++) {
                if (sizes[w] == letters && beginsWith(w, row, letters)) {
                    return w;
                }
            }
            return NONE;
        }

        boolean beginsWith(int w, int[] row, int letters) {
            if (letters > sizeOf(w) || letters > row.length) {
                return false;
            }
            for (int i = 0; i < letters; i++) {
                if (signOf(w, i) != row[i]) {
                    return false;
                }
            }
            return true;
        }

        private boolean has(int w) {
            return w >= 0 && w < size;
        }

        int size() {
            return size;
        }

        /** 0 of what is no word: a word has a letter at least. */
        int sizeOf(int w) {
            return has(w) ? sizes[w] : 0;
        }

        int timesOf(int w) {
            return has(w) ? counts[w] : 0;
        }

        int signOf(int w, int i) {
            return i >= 0 && i < sizeOf(w) ? signs[w * WORD_LETTERS + i] : 0;
        }
    }

    /** The words foreseen or offered for what is written, the best first. */
    private static final class Finder {
        private static final int MOST_SLIPS = 2;

        private final Book book;
        private final Tray tray;
        private final Sheet sheet;
        private final int[] written = new int[WORD_LETTERS];
        private final int[] words = new int[Book.MOST];
        private final int[] slips = new int[Book.MOST];
        private int found;

        Finder(Book book, Tray tray, Sheet sheet) {
            this.book = book;
            this.tray = tray;
            this.sheet = sheet;
        }

        void seekForeseen() {
            found = 0;
            int letters = readWritten();
            for (int w = 0; w < book.size(); w++) {
                if (book.sizeOf(w) > letters && book.beginsWith(w, written, letters)) {
                    enlist(w, 0);
                }
            }
        }

        void seekOffered() {
            found = 0;
            int letters = readWritten();
            if (letters == 0 || book.find(written, letters) != NONE) {
                return;
            }
            for (int w = 0; w < book.size(); w++) {
                int unlike = book.sizeOf(w) == letters ? slipsOf(w, letters) : NONE;
                if (unlike != NONE) {
                    enlist(w, unlike);
                }
            }
        }

        // What is longer than every word is only measured: no word can begin with it or be as long.
        private int readWritten() {
            int letters = sheet.written();
            if (letters <= WORD_LETTERS) {
                sheet.copyLast(letters, written);
            }
            return letters;
        }

        private int slipsOf(int w, int letters) {
            int unlike = 0;
            for (int i = 0; i < letters && i < WORD_LETTERS; i++) {
                int sign = book.signOf(w, i);
                if (sign != written[i]) {
                    unlike++;
                    if (unlike > MOST_SLIPS || !tray.areNeighbours(sign, written[i])) {
                        return NONE;
                    }
                }
            }
            return unlike;
        }

        // Words come as told, so one that is no better than another stays behind it.
        private void enlist(int w, int unlike) {
            if (found >= Book.MOST) {
                return;
            }
            int place = found;
            while (place > 0 && isBetter(w, unlike, place - 1)) {
                words[place] = words[place - 1];
                slips[place] = slips[place - 1];
                place--;
            }
            words[place] = w;
            slips[place] = unlike;
            found++;
        }

        private boolean isBetter(int w, int unlike, int place) {
            if (unlike != slips[place]) {
                return unlike < slips[place];
            }
            return book.timesOf(w) > book.timesOf(words[place]);
        }

        int found() {
            return found;
        }

        int foundAt(int k) {
            return k >= 0 && k < found ? words[k] : NONE;
        }
    }

    /** How often each letter is wanted, and what keys cost. */
    private static final class Shares {
        private static final int MOST_SHARE = 1000;
        private static final int MOST_STEPS = 100;

        private final Tray tray;
        private final Numbers numbers;
        private final int[] shares = new int[LETTERS];
        private final int[] leasts = new int[LETTERS];

        Shares(Tray tray, Numbers numbers) {
            this.tray = tray;
            this.numbers = numbers;
        }

        boolean change(int sign, int v) {
            if (!isLetter(sign) || !within(v, 0, MOST_SHARE)) {
                return false;
            }
            shares[sign - FIRST_LETTER] = v;
            return true;
        }

        int shareOf(int sign) {
            return isLetter(sign) ? shares[sign - FIRST_LETTER] : 0;
        }

        int costOf(int node) {
            if (tray.placeOf(node) == NONE) {
                return NONE;
            }
            int sum = 0;
            int part = node;
            for (int i = 0; i < Tray.MOST && part > 0; i++) {
                sum += numbers.get(SPAN) * tray.placeOf(part) + numbers.get(PRICE);
                part = tray.groupOf(part);
            }
            return sum;
        }

        long meanPart(int what) {
            if (!within(what, 0, 1)) {
                return NONE;
            }
            findLeasts();
            long ticks = 0;
            long all = 0;
            for (int i = 0; i < LETTERS; i++) {
                if (shares[i] > 0 && leasts[i] == NONE) {
                    return NONE;
                }
                ticks += (long) shares[i] * leasts[i];
                all += shares[i];
            }
            long common = commonDivisor(ticks, all);
            if (all == 0 || common == 0) {
                return NONE;
            }
            return (what == 0 ? ticks : all) / common;
        }

        private void findLeasts() {
            Arrays.fill(leasts, NONE);
            for (int i = 1; i < tray.size(); i++) {
                int sign = tray.valueOf(i);
                if (tray.kindOf(i) == LETTER && isLetter(sign)) {
                    int sum = costOf(i);
                    int least = leasts[sign - FIRST_LETTER];
                    leasts[sign - FIRST_LETTER] = least == NONE ? sum : Math.min(least, sum);
                }
            }
        }

        private static long commonDivisor(long one, long other) {
            long a = one;
            long b = other;
            for (int i = 0; i < MOST_STEPS && b != 0; i++) {
                long rest = a % b;
                a = b;
                b = rest;
            }
            return a;
        }
    }

    /**
     * The least tray for the row on the tape. A part of the row, from a letter to before another,
     * stands in a group from place 1 on; what it costs there does not hang on what is round it.
     */
    private static final class Plan {
        private static final int ROW = Tape.MOST + 1;

        private final Tape tape;
        private final Numbers numbers;
        // By the letters before it: the sum of shares, each 1 more than told.
        private final int[] sums = new int[ROW];
        // By from * ROW + to: the least cost of that part.
        private final int[] leasts = new int[ROW * ROW];
        // By the group: the letter before which it ends.
        private final int[] ends = new int[Tray.MOST];

        Plan(Tape tape, Numbers numbers) {
            this.tape = tape;
            this.numbers = numbers;
        }

        int solve(Shares shares) {
            int letters = tape.size();
            for (int i = 0; i < letters && i < Tape.MOST; i++) {
                sums[i + 1] = sums[i] + shares.shareOf(tape.signAt(i)) + 1;
            }
            for (int from = letters - 1; from >= 0; from--) {
                for (int to = from + 1; to <= letters && to < ROW; to++) {
                    int first = firstEnd(from, to);
                    leasts[from * ROW + to] = costWith(from, first, to);
                }
            }
            return leastOf(0, letters);
        }

        /**
         * Where the first group or key of a part ends: the fewest letters of those that cost least.
         * A group of the whole part is not tried: what is in it costs less without it.
         */
        private int firstEnd(int from, int to) {
            int best = from + 1;
            int least = costWith(from, best, to);
            for (int first = from + 2; first < to; first++) {
                int sum = costWith(from, first, to);
                if (sum < least) {
                    best = first;
                    least = sum;
                }
            }
            return best;
        }

        // The first place costs each letter of the part a span, whether it is taken or passed by.
        private int costWith(int from, int first, int to) {
            int inside = first - from > 1 ? leastOf(from, first) : 0;
            return numbers.get(SPAN) * sumOf(from, to) + numbers.get(PRICE) * sumOf(from, first)
                + inside + leastOf(first, to);
        }

        private int sumOf(int from, int to) {
            return isPart(from, to) ? sums[to] - sums[from] : 0;
        }

        private int leastOf(int from, int to) {
            return isPart(from, to) ? leasts[from * ROW + to] : 0;
        }

        private static boolean isPart(int from, int to) {
            return from >= 0 && from < to && to < ROW;
        }

        /** Puts the row into an empty tray; solve has been asked before. */
        void build(Tray tray) {
            int letters = tape.size();
            int start = 0;
            int group = 0;
            ends[0] = letters;
            for (int i = 0; i < Tray.MOST && start < letters; i++) {
                group = openAt(start, group, tray);
                int stop = firstEnd(start, ends[group]);
                if (stop - start == 1) {
                    tray.add(group, LETTER, tape.signAt(start));
                    start = stop;
                } else {
                    group = tray.add(group, GROUP, NONE);
                    if (group == NONE) {
                        return;
                    }
                    ends[group] = stop;
                }
            }
        }

        // A letter stands in the innermost group that does not end before it.
        private int openAt(int start, int group, Tray tray) {
            int open = group;
            for (int i = 0; i < Tray.MOST && open > 0 && ends[open] <= start; i++) {
                open = tray.groupOf(open);
            }
            return Math.max(open, 0);
        }
    }
}
