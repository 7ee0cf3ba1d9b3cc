import java.util.ArrayDeque;
import java.util.ArrayList;
import java.util.Comparator;
import java.util.List;
import java.util.NoSuchElementException;
import java.util.TreeMap;
import java.util.TreeSet;
import java.util.regex.Matcher;
import java.util.regex.Pattern;

/**
 * The document once more, told sector by sector and without regard to speed, to compare the program with. It
 * keeps sets of sectors where the program keeps areas, and a state for each chunk where the program counts.
 */
final class Model {
    static final class P {
        int start, size, minimum, kind, serial, ended;
        boolean locked;

        P copy() {
            P p = new P();
            p.start = start;
            p.size = size;
            p.minimum = minimum;
            p.kind = kind;
            p.serial = serial;
            p.ended = ended;
            p.locked = locked;
            return p;
        }

        TreeSet<Integer> sectors() {
            return area(start, size);
        }

        int number(int block) {
            return 1000 * (serial + 1) + block;
        }
    }

    static final class State {
        int[] data = new int[64];
        int head, tail, align = 1, chunk = 4, made, done, torn, ended;
        TreeMap<Integer, P> parts = new TreeMap<>();
        int moving = -1, from, to, moveChunk, scratch = -1;
        /** 'o', 's' or 'n' for each chunk. */
        char[] chunks = new char[0];

        State copy() {
            State s = new State();
            s.data = data.clone();
            s.head = head;
            s.tail = tail;
            s.align = align;
            s.chunk = chunk;
            s.made = made;
            s.done = done;
            s.torn = torn;
            s.ended = ended;
            for (int n : parts.keySet()) {
                s.parts.put(n, parts.get(n).copy());
            }
            s.moving = moving;
            s.from = from;
            s.to = to;
            s.moveChunk = moveChunk;
            s.scratch = scratch;
            s.chunks = chunks.clone();
            return s;
        }
    }

    State now = new State();
    State kept;
    final ArrayDeque<State> past = new ArrayDeque<>();
    String input = "";
    String output = "";
    int error;
    int errorAt = -1;

    static TreeSet<Integer> area(int start, int size) {
        TreeSet<Integer> set = new TreeSet<>();
        for (int i = 0; i < size; i++) {
            set.add(start + i);
        }
        return set;
    }

    static boolean common(TreeSet<Integer> a, TreeSet<Integer> b) {
        for (int i : a) {
            if (b.contains(i)) {
                return true;
            }
        }
        return false;
    }

    void change() {
        past.push(now.copy());
        if (past.size() > 10) {
            past.removeLast();
        }
    }

    P need(int part) {
        P p = now.parts.get(part);
        if (p == null) {
            throw new NoSuchElementException();
        }
        return p;
    }

    void illegal(boolean is) {
        if (is) {
            throw new IllegalArgumentException();
        }
    }

    void state(boolean is) {
        if (is) {
            throw new IllegalStateException();
        }
    }

    void index(boolean is) {
        if (is) {
            throw new IndexOutOfBoundsException();
        }
    }

    // ---- sets

    TreeSet<Integer> usable() {
        return area(now.head, now.data.length - now.head - now.tail);
    }

    boolean fits(long start, long size) {
        return size >= 1 && start >= now.head && start + size <= now.data.length - now.tail;
    }

    TreeSet<Integer> busy() {
        TreeSet<Integer> set = new TreeSet<>();
        if (now.moving >= 0) {
            int size = now.parts.get(now.moving).size;
            set.addAll(area(now.to, size));
            if (now.scratch >= 0) {
                set.addAll(area(now.scratch, Math.min(size, now.moveChunk)));
            }
        }
        return set;
    }

    TreeSet<Integer> ofParts(int except) {
        TreeSet<Integer> set = new TreeSet<>();
        for (int n : now.parts.keySet()) {
            if (n != except) {
                set.addAll(now.parts.get(n).sectors());
            }
        }
        return set;
    }

    /** Start and size of each gap. */
    List<int[]> gaps() {
        TreeSet<Integer> free = usable();
        free.removeAll(ofParts(-1));
        free.removeAll(busy());
        List<int[]> gaps = new ArrayList<>();
        for (int s : free) {
            if (free.contains(s - 1)) {
                gaps.get(gaps.size() - 1)[1]++;
            } else {
                gaps.add(new int[] {s, 1});
            }
        }
        return gaps;
    }

    int[] room(int[] gap) {
        for (int s = gap[0]; s < gap[0] + gap[1]; s++) {
            if (s % now.align == 0) {
                return new int[] {s, gap[0] + gap[1] - s};
            }
        }
        return new int[] {-1, 0};
    }

    // ---- the setup text

    int appendInput(int a, int b, int c, int d, int e) {
        if (input.length() + 20 > 500) {
            return -1;
        }
        StringBuilder text = new StringBuilder(input);
        for (int word : new int[] {a, b, c, d, e}) {
            for (int i = 3; i >= 0; i--) {
                text.append((char) (word >> 8 * i & 255));
            }
        }
        input = text.toString();
        return input.length();
    }

    boolean truncateInput(int length) {
        if (length < 0 || length > input.length()) {
            return false;
        }
        input = input.substring(0, length);
        return true;
    }

    private static final class Fault extends RuntimeException {
        private static final long serialVersionUID = 1L;
        final int code;
        final int at;

        Fault(int code, int at) {
            this.code = code;
            this.at = at;
        }
    }

    private List<String> tokens;
    private List<Integer> offsets;
    private int token;

    private void scan() {
        tokens = new ArrayList<>();
        offsets = new ArrayList<>();
        Matcher m = Pattern.compile("[ \n]+|[a-z]+|[0-9]+|(?s:.)").matcher(input);
        while (m.find()) {
            if (!m.group().matches("[ \n]+")) {
                tokens.add(m.group());
                offsets.add(m.start());
            }
        }
        tokens.add("");
        offsets.add(input.length());
        token = 0;
    }

    private int number(int least, int most) {
        String t = tokens.get(token);
        if (!t.matches("[0-9]{1,3}")) {
            throw new Fault(1, offsets.get(token));
        }
        int n = Integer.parseInt(t);
        if (n < least || n > most) {
            throw new Fault(2, offsets.get(token));
        }
        token++;
        return n;
    }

    private void word(String w) {
        if (!tokens.get(token).equals(w)) {
            throw new Fault(1, offsets.get(token));
        }
        token++;
    }

    int loadDisk() {
        State old = now;
        scan();
        input = "";
        error = 0;
        errorAt = -1;
        try {
            now = new State();
            word("disk");
            now.data = new int[number(64, 600)];
            word(";");
            TreeSet<String> told = new TreeSet<>();
            while (!tokens.get(token).isEmpty()) {
                statement(told);
                word(";");
            }
        } catch (Fault f) {
            now = old;
            error = f.code;
            errorAt = f.at;
            return -1;
        }
        past.clear();
        kept = null;
        output = "";
        return now.parts.size();
    }

    private void statement(TreeSet<String> told) {
        String w = tokens.get(token);
        int at = offsets.get(token);
        boolean early = w.equals("head") || w.equals("tail") || w.equals("align");
        if (early && !now.parts.isEmpty() || !early && !w.matches("chunk|part|lock")) {
            throw new Fault(1, at);
        }
        if ((early || w.equals("chunk")) && !told.add(w)) {
            throw new Fault(3, at);
        }
        if (w.equals("part") && now.parts.size() == 8) {
            throw new Fault(5, at);
        }
        token++;
        switch (w) {
            case "head" -> now.head = number(0, 31);
            case "tail" -> now.tail = number(0, 31);
            case "align" -> now.align = number(1, 32);
            case "chunk" -> now.chunk = number(1, 16);
            case "lock" -> {
                at = offsets.get(token);
                P p = now.parts.get(number(0, now.parts.size() - 1));
                if (p.locked) {
                    throw new Fault(3, at);
                }
                p.locked = true;
            }
            default -> {
                at = offsets.get(token);
                int start = number(0, 999);
                if (!usable().contains(start) || start % now.align != 0) {
                    throw new Fault(2, at);
                }
                at = offsets.get(token);
                int size = number(1, 999);
                if (!fits(start, size)) {
                    throw new Fault(2, at);
                }
                if (common(area(start, size), ofParts(-1))) {
                    throw new Fault(4, at);
                }
                int kind = number(0, 9);
                make(start, size, kind, number(1, size));
            }
        }
    }

    int make(int start, int size, int kind, int minimum) {
        int n = 0;
        while (now.parts.containsKey(n)) {
            n++;
        }
        P p = new P();
        p.start = start;
        p.size = size;
        p.kind = kind;
        p.minimum = minimum;
        p.serial = now.made++;
        now.parts.put(n, p);
        for (int b = 0; b < size; b++) {
            now.data[start + b] = p.number(b);
        }
        return n;
    }

    int errorCode() {
        return error;
    }

    int errorOffset() {
        return errorAt;
    }

    // ---- questions

    int count(int what) {
        illegal(what < 0 || what > 11);
        int inGaps = 0;
        for (int[] g : gaps()) {
            inGaps += g[1];
        }
        return new int[] {now.data.length, now.head, now.tail, now.align, now.chunk, now.parts.size(), inGaps,
            gaps().size(), now.done, now.torn, now.ended, past.size()}[what];
    }

    int part(int part, int what) {
        illegal(what < 0 || what > 6);
        P p = need(part);
        return new int[] {p.start, p.size, p.minimum, p.kind, p.locked ? 1 : 0, p.serial, p.ended}[what];
    }

    int sector(int sector) {
        index(sector < 0 || sector >= now.data.length);
        return now.data[sector];
    }

    int where(int part, int block) {
        P p = now.parts.get(part);
        if (part != now.moving) {
            return p.start + block;
        }
        int c = block / now.moveChunk;
        switch (now.chunks[c]) {
            case 'n': return now.to + block;
            case 's': return now.scratch + block % now.moveChunk;
            default: return now.from + block;
        }
    }

    int owner(int sector) {
        index(sector < 0 || sector >= now.data.length);
        for (int n : now.parts.keySet()) {
            for (int b = 0; b < now.parts.get(n).size; b++) {
                if (where(n, b) == sector) {
                    return n;
                }
            }
        }
        return -1;
    }

    int place(int part, int block) {
        P p = need(part);
        index(block < 0 || block >= p.size);
        return where(part, block);
    }

    boolean isWhole(int part) {
        P p = need(part);
        boolean whole = true;
        for (int b = 0; b < p.size; b++) {
            whole &= now.data[where(part, b)] == p.number(b);
        }
        return whole;
    }

    List<Integer> inOrder() {
        List<Integer> order = new ArrayList<>(now.parts.keySet());
        order.sort(Comparator.comparingInt(n -> now.parts.get(n).start));
        return order;
    }

    int byStart(int index) {
        index(index < 0);
        List<Integer> order = inOrder();
        return index < order.size() ? order.get(index) : -1;
    }

    int gap(int gap, int what) {
        List<int[]> gaps = gaps();
        index(gap < 0 || gap >= gaps.size());
        illegal(what < 0 || what > 3);
        int[] g = gaps.get(gap);
        return what < 2 ? g[what] : room(g)[what - 2];
    }

    int largestGap() {
        int most = 0;
        for (int[] g : gaps()) {
            most = Math.max(most, g[1]);
        }
        return most;
    }

    int fit(int size, int rule) {
        illegal(rule < 0 || rule > 2);
        List<int[]> rooms = new ArrayList<>();
        for (int[] g : gaps()) {
            if (size >= 1 && room(g)[1] >= size) {
                rooms.add(room(g));
            }
        }
        // The sort is stable: the first one stays first on a tie.
        if (rule == 1) {
            rooms.sort(Comparator.comparingInt(r -> r[1]));
        }
        if (rule == 2) {
            rooms.sort(Comparator.comparingInt(r -> -r[1]));
        }
        return rooms.isEmpty() ? -1 : rooms.get(0)[0];
    }

    int reason(int start, int size) {
        if (!fits(start, size)) {
            return 1;
        }
        if (start % now.align != 0) {
            return 2;
        }
        if (common(area(start, size), ofParts(-1))) {
            return 3;
        }
        return common(area(start, size), busy()) ? 4 : 0;
    }

    int overlapped(int start, int size) {
        int mask = 0;
        for (int n : now.parts.keySet()) {
            for (int s : now.parts.get(n).sectors()) {
                if (s >= start && s < (long) start + size) {
                    mask |= 1 << n;
                }
            }
        }
        return mask;
    }

    int resizeReason(int part, int size) {
        P p = need(part);
        return p.locked ? 1 : part == now.moving ? 2 : sizeReason(part, size);
    }

    int sizeReason(int part, int size) {
        P p = now.parts.get(part);
        if (size < p.minimum) {
            return 3;
        }
        if (!fits(p.start, size)) {
            return 4;
        }
        if (common(area(p.start, size), ofParts(part))) {
            return 5;
        }
        TreeSet<Integer> fresh = area(p.start, size);
        fresh.removeAll(p.sectors());
        return common(fresh, busy()) ? 6 : 0;
    }

    int growsTo(int part) {
        need(part);
        int most = -1;
        for (int size = 1; size <= 600; size++) {
            if (sizeReason(part, size) == 0) {
                most = size;
            }
        }
        return most;
    }

    // ---- moves as questions

    /** The start of the scratch area: -1 if none is needed, -2 if there is none. */
    int scratch(int part, int to, int chunk) {
        P p = now.parts.get(part);
        int longest = Math.min(chunk, p.size);
        if (longest <= Math.abs(p.start - to)) {
            return -1;
        }
        TreeSet<Integer> no = ofParts(-1);
        no.addAll(area(to, p.size));
        for (int s = now.data.length; s >= 0; s--) {
            if (fits(s, longest) && !common(area(s, longest), no)) {
                return s;
            }
        }
        return -2;
    }

    int moveReason(int part, int to, int chunk) {
        P p = need(part);
        if (p.locked) {
            return 1;
        }
        if (now.moving >= 0) {
            return 2;
        }
        if (to == p.start) {
            return 3;
        }
        if (!fits(to, p.size)) {
            return 4;
        }
        if (to % now.align != 0) {
            return 5;
        }
        if (common(area(to, p.size), ofParts(part))) {
            return 6;
        }
        return scratch(part, to, chunk) == -2 ? 7 : 0;
    }

    int moveReason(int part, int to) {
        return moveReason(part, to, now.chunk);
    }

    int stepsFor(int part, int to, int chunk) {
        if (moveReason(part, to, chunk) != 0) {
            return -1;
        }
        P p = now.parts.get(part);
        int steps = 0;
        for (int left = p.size; left > 0; left -= chunk) {
            steps += Math.min(left, chunk) > Math.abs(to - p.start) ? 2 : 1;
        }
        return steps;
    }

    int stepsFor(int part, int to) {
        return stepsFor(part, to, now.chunk);
    }

    int bestChunk(int part, int to) {
        int best = -1;
        int fewest = 100000;
        for (int c = 1; c <= 16; c++) {
            int steps = stepsFor(part, to, c);
            if (steps >= 0 && steps < fewest) {
                fewest = steps;
                best = c;
            }
        }
        return best;
    }

    int leftmost(int part) {
        P p = need(part);
        for (int to = 0; to < p.start; to++) {
            if (moveReason(part, to) == 0) {
                return to;
            }
        }
        return -1;
    }

    int rightmost(int part) {
        P p = need(part);
        for (int to = now.data.length; to > p.start; to--) {
            if (moveReason(part, to) == 0) {
                return to;
            }
        }
        return -1;
    }

    int cheapestMove(int size) {
        illegal(size < 1 || size > 600);
        state(now.moving >= 0);
        if (hasRoom(size)) {
            return -2;
        }
        int best = -1;
        int fewest = 100000;
        for (int n : now.parts.keySet()) {
            P p = now.parts.get(n);
            int start = p.start;
            for (int to = 0; to < now.data.length; to++) {
                int steps = stepsFor(n, to);
                if (steps >= 0 && steps < fewest) {
                    p.start = to;
                    if (hasRoom(size)) {
                        fewest = steps;
                        best = 1000 * n + to;
                    }
                    p.start = start;
                }
            }
        }
        return best;
    }

    private boolean hasRoom(int size) {
        for (int[] g : gaps()) {
            if (room(g)[1] >= size) {
                return true;
            }
        }
        return false;
    }

    int compactSteps() {
        if (now.moving >= 0) {
            return -1;
        }
        State real = now;
        now = real.copy();
        pack();
        int steps = now.done - real.done;
        now = real;
        return steps;
    }

    // ---- sums

    int waste() {
        int sum = 0;
        for (int[] g : gaps()) {
            sum += g[1] - room(g)[1];
        }
        return sum;
    }

    float scatter() {
        int all = count(6);
        return all == 0 ? 0f : 1f - (float) largestGap() / (float) all;
    }

    double used() {
        return (double) ofParts(-1).size() / (double) usable().size();
    }

    int slack() {
        int sum = 0;
        for (int n : now.parts.keySet()) {
            P p = now.parts.get(n);
            sum += p.locked || n == now.moving ? 0 : p.size - p.minimum;
        }
        return sum;
    }

    int ofKind(int kind) {
        illegal(kind < 0 || kind > 9);
        int sum = 0;
        for (P p : now.parts.values()) {
            sum += p.kind == kind ? p.size : 0;
        }
        return sum;
    }

    int copies(int part) {
        P p = need(part);
        int found = 0;
        for (int s = 0; s < now.data.length; s++) {
            for (int b = 0; b < p.size; b++) {
                if (now.data[s] == p.number(b) && where(part, b) != s) {
                    found++;
                }
            }
        }
        return found;
    }

    int behind(int part) {
        P p = need(part);
        for (int n : inOrder()) {
            if (now.parts.get(n).start > p.start) {
                return n;
            }
        }
        return -1;
    }

    int gapAt(int sector) {
        index(sector < 0 || sector >= now.data.length);
        List<int[]> gaps = gaps();
        for (int g = 0; g < gaps.size(); g++) {
            if (area(gaps.get(g)[0], gaps.get(g)[1]).contains(sector)) {
                return g;
            }
        }
        return -1;
    }

    int verify() {
        int mask = 0;
        for (int n : now.parts.keySet()) {
            mask |= isWhole(n) ? 1 << n : 0;
        }
        return mask;
    }

    // ---- changes of partitions

    int add(int start, int size, int kind, int minimum) {
        illegal(kind < 0 || kind > 9 || minimum < 1 || minimum > size || reason(start, size) != 0);
        state(now.parts.size() == 8);
        change();
        return make(start, size, kind, minimum);
    }

    int addBy(int size, int kind, int minimum, int rule) {
        illegal(kind < 0 || kind > 9 || minimum < 1 || minimum > size || rule < 0 || rule > 2);
        state(now.parts.size() == 8 || fit(size, rule) < 0);
        change();
        return make(fit(size, rule), size, kind, minimum);
    }

    int remove(int part) {
        P p = need(part);
        state(p.locked || part == now.moving);
        change();
        return now.parts.remove(part).size;
    }

    boolean lock(int part, boolean on) {
        P p = need(part);
        boolean before = p.locked;
        change();
        p.locked = on;
        return before;
    }

    int resize(int part, int size) {
        int before = need(part).size;
        state(resizeReason(part, size) != 0);
        change();
        giveSize(now.parts.get(part), size);
        return before;
    }

    void giveSize(P p, int size) {
        for (int b = p.size; b < size; b++) {
            now.data[p.start + b] = p.number(b);
        }
        p.size = size;
    }

    int roundUp(int part) {
        int size = need(part).size;
        while (size % now.align != 0) {
            size++;
        }
        resize(part, size);
        return size;
    }

    int setMinimum(int part, int minimum) {
        P p = need(part);
        illegal(minimum < 1 || minimum > p.size);
        int before = p.minimum;
        change();
        p.minimum = minimum;
        return before;
    }

    int set(int what, int value) {
        illegal(what != 3 && what != 4 || value < 1 || value > (what == 3 ? 32 : 16));
        change();
        int before = what == 3 ? now.align : now.chunk;
        if (what == 3) {
            now.align = value;
        } else {
            now.chunk = value;
        }
        return before;
    }

    int split(int part, int size) {
        P p = need(part);
        illegal(size < p.minimum || size > p.size - 1);
        state(p.locked || part == now.moving || (p.start + size) % now.align != 0 || now.parts.size() == 8);
        change();
        int rest = p.size - size;
        p.size = size;
        return make(p.start + size, rest, p.kind, 1);
    }

    int join(int part) {
        P p = need(part);
        for (int n : now.parts.keySet()) {
            P q = now.parts.get(n);
            if (q.start == p.start + p.size) {
                state(q.kind != p.kind || p.locked || q.locked || part == now.moving || n == now.moving);
                change();
                now.parts.remove(n);
                giveSize(p, p.size + q.size);
                return n;
            }
        }
        throw new IllegalStateException();
    }

    int shrinkAll() {
        int lost = slack();
        change();
        for (int n : now.parts.keySet()) {
            P p = now.parts.get(n);
            if (!p.locked && n != now.moving) {
                p.size = p.minimum;
            }
        }
        return lost;
    }

    int wipe() {
        change();
        int wiped = 0;
        for (int s = 0; s < now.data.length; s++) {
            if (owner(s) < 0) {
                wiped += now.data[s] != 0 ? 1 : 0;
                now.data[s] = 0;
            }
        }
        return wiped;
    }

    // ---- moves

    int begin(int part, int to) {
        int steps = stepsFor(part, to);
        state(steps < 0);
        change();
        start(part, to);
        return steps;
    }

    void start(int part, int to) {
        P p = now.parts.get(part);
        now.scratch = scratch(part, to, now.chunk);
        now.moving = part;
        now.from = p.start;
        now.to = to;
        now.moveChunk = now.chunk;
        now.chunks = "o".repeat((p.size + now.chunk - 1) / now.chunk).toCharArray();
    }

    /** The chunk of the next step: the first one that is not moved, in the order of the move. */
    int next() {
        int n = now.chunks.length;
        for (int i = 0; i < n; i++) {
            int c = now.to < now.from ? i : n - 1 - i;
            if (now.chunks[c] != 'n') {
                return c;
            }
        }
        return -1;
    }

    int blocks(int c) {
        return Math.min(now.moveChunk, now.parts.get(now.moving).size - c * now.moveChunk);
    }

    int kind() {
        if (now.chunks[next()] == 's') {
            return 2;
        }
        return blocks(next()) > Math.abs(now.from - now.to) ? 1 : 0;
    }

    int source(int i) {
        return where(now.moving, next() * now.moveChunk + i);
    }

    int target(int i) {
        return kind() == 1 ? now.scratch + i : now.to + next() * now.moveChunk + i;
    }

    void copy(int blocks) {
        for (int i = 0; i < blocks; i++) {
            now.data[target(i)] = now.data[source(i)];
        }
    }

    void step() {
        int c = next();
        copy(blocks(c));
        now.done++;
        now.chunks[c] = kind() == 1 ? 's' : 'n';
        if (next() < 0) {
            P p = now.parts.get(now.moving);
            p.start = now.to;
            p.ended++;
            now.ended++;
            now.moving = -1;
        }
    }

    int run(int steps) {
        illegal(steps < 1 || steps > 999);
        state(now.moving < 0);
        change();
        int done = 0;
        while (done < steps && now.moving >= 0) {
            step();
            done++;
        }
        return done;
    }

    int tear() {
        state(now.moving < 0);
        change();
        int half = blocks(next()) / 2;
        copy(half);
        now.torn++;
        return half;
    }

    int turnBack() {
        state(now.moving < 0 || new String(now.chunks).contains("s"));
        change();
        if (!new String(now.chunks).contains("n")) {
            now.moving = -1;
            return 0;
        }
        int swap = now.from;
        now.from = now.to;
        now.to = swap;
        now.chunks = new String(now.chunks).replace('n', 'x').replace('o', 'n').replace('x', 'o').toCharArray();
        now.parts.get(now.moving).start = now.from;
        return left();
    }

    int left() {
        int steps = 0;
        for (int c = 0; c < now.chunks.length; c++) {
            int all = blocks(c) > Math.abs(now.from - now.to) ? 2 : 1;
            steps += now.chunks[c] == 'n' ? 0 : now.chunks[c] == 's' ? 1 : all;
        }
        return steps;
    }

    int move(int what) {
        illegal(what < 0 || what > 8);
        if (now.moving < 0) {
            return -1;
        }
        String c = new String(now.chunks);
        int moved = c.length() - c.replace("n", "").length();
        return new int[] {now.moving, now.from, now.to, now.scratch, now.moveChunk, c.length(), moved, left(),
            c.contains("s") ? 1 : 0}[what];
    }

    int blocksAt(int where) {
        illegal(where < 0 || where > 2);
        if (now.moving < 0) {
            return -1;
        }
        int sum = 0;
        for (int c = 0; c < now.chunks.length; c++) {
            sum += now.chunks[c] == "nso".charAt(where) ? blocks(c) : 0;
        }
        return sum;
    }

    int nextStep(int what) {
        illegal(what < 0 || what > 3);
        if (now.moving < 0) {
            return -1;
        }
        return new int[] {kind(), next(), next() * now.moveChunk, blocks(next())}[what];
    }

    int stepSector(int index, boolean to) {
        if (now.moving < 0 || index < 0 || index >= blocks(next())) {
            return -1;
        }
        return to ? target(index) : source(index);
    }

    int pack() {
        int moved = 0;
        for (int n : inOrder()) {
            int to = leftmost(n);
            if (to >= 0) {
                start(n, to);
                while (now.moving >= 0) {
                    step();
                }
                moved++;
            }
        }
        return moved;
    }

    int compact() {
        state(now.moving >= 0);
        change();
        return pack();
    }

    // ---- output, undo, save

    int printDisk() {
        List<String> words = new ArrayList<>();
        for (int n : inOrder()) {
            P p = now.parts.get(n);
            words.add(n + "[" + p.start + "," + p.size + "]" + (p.locked ? "*" : "") + (n == now.moving ? ">" : ""));
        }
        output = String.join(" ", words);
        return output.length();
    }

    int outputByte(int index) {
        return index < 0 || index >= output.length() ? -1 : output.charAt(index);
    }

    int undo() {
        if (past.isEmpty()) {
            return -1;
        }
        now = past.pop();
        return past.size();
    }

    int saveState() {
        kept = now.copy();
        return now.parts.size();
    }

    int restoreState() {
        state(kept == null);
        now = kept.copy();
        past.clear();
        return now.parts.size();
    }
}
