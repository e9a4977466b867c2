import java.util.ArrayList;
import java.util.Arrays;
import java.util.List;

/**
 * The document told a second time, in another way: states are copied and lived through whole, laws are worked out on
 * their text, acts are Java's own, rows are Java's arrays whose refusals are the host's. ModelTest lays it beside ToadWall.
 */
public final class Model {
    static final int BAD = -1, NOT = -2, FULL = -3, STATE = -5, VOID = -2000000000;

    static final class Block implements Cloneable {
        int bed, at, lives = 3, open, dead;

        Block copy() {
            try {
                return (Block) clone();
            } catch (CloneNotSupportedException e) {
                throw new IllegalStateException(e);
            }
        }
    }

    /** All that lives through centuries. */
    static final class World {
        final List<Block> blocks = new ArrayList<>();
        final int[] leads = new int[16], word = new int[16];
        int century;
        String law;
        int[] led = new int[5];

        World copy() {
            World c = new World();
            for (Block b : blocks) c.blocks.add(b.copy());
            System.arraycopy(leads, 0, c.leads, 0, 16);
            System.arraycopy(word, 0, c.word, 0, 16);
            c.century = century;
            c.law = law;
            c.led = led.clone();
            return c;
        }

        int open() {
            return (int) blocks.stream().filter(b -> b.open == 1).count();
        }

        List<Integer> closed() {
            List<Integer> all = new ArrayList<>();
            for (int b = 0; b < blocks.size(); b++) if (blocks.get(b).open == 0) all.add(b);
            return all;
        }

        int says(int b) {
            return word[blocks.get(b).at];
        }

        int goes(int b) {
            Block k = blocks.get(b);
            if (law == null) return 1 + k.bed / 4;
            int v = new Text(law, k.bed, k.at, word[k.at], b, open(), century).worth();
            return v < 0 ? 0 : v > 9 ? 9 : v;
        }

        World pass(int n) {
            for (int c = 0; c < n; c++) {
                for (int b : closed()) {
                    Block k = blocks.get(b);
                    for (int s = goes(b); s > 0; s--) k.at = leads[k.at];
                }
                if (century < 99) century++;
                led[0]++;
            }
            return this;
        }

        int open(int b) {
            int w = says(b);
            blocks.get(b).open = 1;
            led[1]++;
            led[2] += w;
            led[3] |= 1 << w;
            return w;
        }
    }

    /** A law's text with the numbers of its names, worked out sign by sign. */
    static final class Text {
        private final String s;
        private final int[] names;
        private int p;

        Text(String s, int... names) {
            this.s = s;
            this.names = names;
        }

        int worth() {
            for (String line : s.split(";", -1)) {
                int q = line.indexOf('?');
                if (q < 0) return new Text(line, names).level(0);
                if (new Text(line.substring(0, q), names).level(0) != 0) return new Text(line.substring(q + 1), names).level(0);
            }
            return 0;
        }

        private static final String[] LEVELS = {"|", "&", "<=>", "+-", "*/%"};

        private int level(int l) {
            if (l == 5) return one();
            int left = level(l + 1);
            while (p < s.length() && LEVELS[l].indexOf(s.charAt(p)) >= 0) {
                char op = s.charAt(p++);
                left = join(op, left, level(l + 1));
            }
            return left;
        }

        private static int join(char op, int a, int b) {
            switch (op) {
                case '|': return (a == 0 && b == 0) ? 0 : 1;
                case '&': return (a == 0 || b == 0) ? 0 : 1;
                case '<': return a < b ? 1 : 0;
                case '=': return a == b ? 1 : 0;
                case '>': return a > b ? 1 : 0;
                case '+': return a + b;
                case '-': return a - b;
                case '*': return a * b;
                case '/': return b == 0 ? 0 : (int) ((long) a / b);
                default: return b == 0 ? 0 : (int) ((long) a % b);
            }
        }

        private int one() {
            char c = s.charAt(p++);
            if (c == '!') return one() == 0 ? 1 : 0;
            if (c == '-') return -one();
            if (c == '(') {
                int v = level(0);
                p++;
                return v;
            }
            int name = "bawnoy".indexOf(c);
            if (name >= 0) return names[name];
            int v = c - '0';
            while (p < s.length() && Character.isDigit(s.charAt(p))) v = v * 10 + s.charAt(p++) - '0';
            return v;
        }
    }

    /** The place of the first byte with which no text goes on; the length, if it ends too early; -1: none. */
    static int fault(String s) {
        List<Character> open = new ArrayList<>();
        List<Boolean> compared = new ArrayList<>();
        compared.add(false);
        boolean wanted = true, asked = false;
        int digits = 0;
        for (int i = 0; i < s.length(); i++) {
            char c = s.charAt(i);
            int top = compared.size() - 1;
            if (wanted) {
                if ("(!-".indexOf(c) >= 0) {
                    if (open.size() == 6) return i;
                    open.add(c);
                    if (c == '(') compared.add(false);
                    continue;
                }
                boolean digit = c >= '0' && c <= '9';
                if (!digit && "bawnoy".indexOf(c) < 0) return i;
                digits = digit ? 1 : 4;
                wanted = false;
                closeSigns(open);
            } else if (c >= '0' && c <= '9') {
                if (digits++ >= 4) return i;
            } else if (c == ')') {
                if (open.isEmpty()) return i;
                open.remove(open.size() - 1);
                compared.remove(top);
                closeSigns(open);
                digits = 4;
            } else {
                wanted = true;
                if (c == '|' || c == '&') compared.set(top, false);
                else if (c == '<' || c == '=' || c == '>') {
                    if (compared.set(top, true)) return i;
                } else if (c == ';' || c == '?') {
                    if (!open.isEmpty() || (c == '?' && asked)) return i;
                    asked = c == '?';
                    compared.set(0, false);
                } else if ("+-*/%".indexOf(c) < 0) return i;
            }
        }
        return wanted || !open.isEmpty() ? s.length() : -1;
    }

    private static void closeSigns(List<Character> open) {
        while (!open.isEmpty() && open.get(open.size() - 1) != '(') open.remove(open.size() - 1);
    }

    // ---- the state

    private World now = new World();
    private World kept;
    private final StringBuilder tape = new StringBuilder();
    private final List<int[]> done = new ArrayList<>(), undone = new ArrayList<>();
    private final List<Toad> toads = new ArrayList<>();
    private List<Integer> ran = new ArrayList<>();
    private final Object[] shelves = new Object[6];

    public Model() {
        for (int t = 0; t < 16; t++) {
            now.leads[t] = t == 15 ? 15 : t + 1;
            now.word[t] = t % 10;
        }
    }

    private boolean isBlock(int b) {
        return b >= 0 && b < now.blocks.size();
    }

    // ---- blocks, thoughts

    public int block(int bed) {
        if (bed < 0 || bed > 9) return BAD;
        if (now.blocks.size() == 10) return FULL;
        Block b = new Block();
        b.bed = bed;
        now.blocks.add(b);
        return now.blocks.size() - 1;
    }

    public int blocks(int shelf, int i, int n) {
        if (shelf < 0 || shelf > 5 || n < 1 || n > 10) return BAD;
        if (shelves[shelf] != null && !(shelves[shelf] instanceof byte[])) return -12;
        byte[] row = (byte[]) shelves[shelf];
        int came = 0;
        try {
            while (came < n && now.blocks.size() < 10) {
                Block b = new Block();
                b.bed = row[i++];
                b.at = row[i++];
                b.lives = row[i++];
                if (b.bed < 0 || b.bed > 9 || b.at < 0 || b.at > 15 || b.lives < 0 || b.lives > 9) break;
                now.blocks.add(b);
                came++;
            }
        } catch (NullPointerException | ArrayIndexOutOfBoundsException e) {
            return came;
        }
        return came;
    }

    private Integer get(int number, int what) {
        if (number < 0) return null;
        switch (what) {
            case 0: return isBlock(number) ? now.blocks.get(number).bed : null;
            case 1: return isBlock(number) ? now.blocks.get(number).at : null;
            case 2: return isBlock(number) ? now.blocks.get(number).lives : null;
            case 3: return isBlock(number) ? now.blocks.get(number).open : null;
            case 4: return isBlock(number) ? now.blocks.get(number).dead : null;
            case 5: return number < 16 ? now.leads[number] : null;
            case 6: return number < 16 ? now.word[number] : null;
            case 7: return number == 0 ? now.century : null;
            default: return null;
        }
    }

    private void set(int number, int what, int v) {
        switch (what) {
            case 0: now.blocks.get(number).bed = v; break;
            case 1: now.blocks.get(number).at = v; break;
            case 2: now.blocks.get(number).lives = v; break;
            case 3: now.blocks.get(number).open = v; break;
            case 4: now.blocks.get(number).dead = v; break;
            case 5: now.leads[number] = v; break;
            case 6: now.word[number] = v; break;
            default: now.century = v; break;
        }
    }

    public int mend(int number, int what, int v) {
        Integer was = get(number, what);
        if (was == null || v < 0 || v > new int[] {9, 15, 9, 1, 1, 15, 9, 99}[what]) return BAD;
        if (was == v) return was;
        set(number, what, v);
        undone.clear();
        done.add(new int[] {number, what, was, v});
        if (done.size() > 40) done.remove(0);
        return was;
    }

    public int of(int number, int what) {
        Integer is = get(number, what);
        return is == null ? BAD : is;
    }

    public int feed(int letter) {
        if (letter < 0 || letter > 255) return BAD;
        if (tape.length() == 120) return FULL;
        return tape.append((char) letter).length();
    }

    public int law() {
        String text = tape.toString();
        tape.setLength(0);
        int fault = fault(text);
        if (fault >= 0) return -100 - fault;
        now.law = text;
        return 1;
    }

    public int goes(int block) {
        return isBlock(block) ? now.goes(block) : BAD;
    }

    // ---- centuries in thought

    public int later(int n, int block, int what) {
        if (n < 0 || n > 60 || !isBlock(block) || what < 0 || what > 1) return BAD;
        World then = now.copy().pass(n);
        return what == 0 ? then.blocks.get(block).at : then.says(block);
    }

    public int wall(int n, int what) {
        if (n < 0 || n > 60 || what < 0 || what > 1) return BAD;
        World then = now.copy().pass(n);
        int bits = 0;
        for (int b : then.closed()) bits |= 1 << (what == 0 ? then.says(b) : then.blocks.get(b).at);
        return what == 0 ? bits : Integer.bitCount(bits);
    }

    public int when(int block, int thought) {
        if (!isBlock(block) || thought < 0 || thought > 15) return BAD;
        World then = now.copy();
        for (int n = 0; n <= 60; n++, then.pass(1)) if (then.blocks.get(block).at == thought) return n;
        return NOT;
    }

    public int meet(int ab) {
        if (ab < 0 || ab > 99 || !isBlock(ab / 10) || !isBlock(ab % 10) || ab % 11 == 0) return BAD;
        World then = now.copy();
        for (int n = 0; n <= 60; n++, then.pass(1)) if (then.blocks.get(ab / 10).at == then.blocks.get(ab % 10).at) return n;
        return NOT;
    }

    public int steps(int from, int to) {
        if (from < 0 || from > 15 || to < 0 || to > 15) return BAD;
        List<Integer> seen = new ArrayList<>();
        for (int t = from; !seen.contains(t); t = now.leads[t]) seen.add(t);
        return seen.contains(to) ? seen.indexOf(to) : NOT;
    }

    public int net(int thought, int what) {
        if (thought < 0 || thought > 15 || what < 0 || what > 2) return BAD;
        int bits = 0;
        for (int t = 0; t < 16; t++) if (steps(t, thought) != NOT) bits |= 1 << t;
        if (what == 0) return bits;
        List<Integer> seen = new ArrayList<>();
        int t = thought;
        for (; !seen.contains(t); t = now.leads[t]) seen.add(t);
        return what == 1 ? seen.size() - seen.indexOf(t) : seen.indexOf(t);
    }

    public int fewest(int words, int what) {
        if (words < 0 || words > 1023 || what < 0 || what > 1) return BAD;
        for (int many = 0; many <= now.blocks.size(); many++) {
            for (int set = 0; set < 1024; set++) {
                if (Integer.bitCount(set) != many) continue;
                int said = 0, inside = 0;
                for (int b : now.closed()) {
                    if ((set & 1 << b) == 0) continue;
                    said |= 1 << now.says(b);
                    inside++;
                }
                if (inside == many && (said & words) == words) return what == 0 ? many : set;
            }
        }
        return NOT;
    }

    private List<Integer> bestOrder;
    private int bestWords;

    public int openings(int k, int i) {
        if (k < 0 || k > 4 || i < -1) return BAD;
        bestOrder = null;
        bestWords = -1;
        orders(now, Math.min(k, now.closed().size()), new ArrayList<>(), 0);
        if (i == -1) return bestWords;
        return i < bestOrder.size() ? bestOrder.get(i) : NOT;
    }

    private void orders(World w, int left, List<Integer> order, int said) {
        if (left == 0) {
            if (Integer.bitCount(said) > bestWords) {
                bestWords = Integer.bitCount(said);
                bestOrder = order;
            }
            return;
        }
        for (int b : w.closed()) {
            World then = w.copy();
            int word = then.open(b);
            List<Integer> longer = new ArrayList<>(order);
            longer.add(b);
            orders(left > 1 ? then.pass(1) : then, left - 1, longer, said | 1 << word);
        }
    }

    // ---- chances, books

    public long chance(int word, int part) {
        if (word < -1 || word > 9 || part < 0 || part > 1) return Long.MIN_VALUE;
        int above = 0, below = 0;
        List<Integer> closed = now.closed();
        for (int a : closed) {
            if (word >= 0) {
                below++;
                if (now.says(a) == word) above++;
                continue;
            }
            for (int b : closed) {
                if (a == b) continue;
                below++;
                if (now.says(a) == now.says(b)) above++;
            }
        }
        if (below == 0) return part;
        int g = java.math.BigInteger.valueOf(above).gcd(java.math.BigInteger.valueOf(below)).intValue();
        return (part == 0 ? above : below) / g;
    }

    private int bookRefusal(int shelf, int block) {
        if (shelf < 0 || shelf > 5 || !isBlock(block)) return BAD;
        if (shelves[shelf] == null) return -11;
        return shelves[shelf] instanceof byte[] ? 0 : -12;
    }

    private static int judged(byte[] book, World w, int block) {
        for (int n = 0; n < book.length && n <= 40; n++) {
            if (book[n] != 10 && book[n] != w.copy().pass(n).says(block)) return n;
        }
        return NOT;
    }

    public int judge(int shelf, int block) {
        int no = bookRefusal(shelf, block);
        return no < 0 ? no : judged((byte[]) shelves[shelf], now, block);
    }

    public int fits(int shelf, int block, int what) {
        if (what < 0 || what > 1) return BAD;
        int no = bookRefusal(shelf, block), bits = 0;
        if (no < 0) return no;
        for (int v = 0; v < (what == 0 ? 16 : 10); v++) {
            World w = now.copy();
            if (what == 0) w.blocks.get(block).at = v;
            else w.blocks.get(block).bed = v;
            if (judged((byte[]) shelves[shelf], w, block) == NOT) bits |= 1 << v;
        }
        return bits;
    }

    public int changed(int block, int nt, int what) {
        if (!isBlock(block) || nt < 16 || nt > 40 * 16 + 15 || what < 0 || what > 1) return BAD;
        int n = nt / 16, thought = nt % 16;
        if (now.copy().pass(n).blocks.get(block).at == thought) return what == 0 ? 0 : 256;
        for (int both = 0; both < 256; both++) {
            if (now.leads[both / 16] == both % 16) continue;
            World w = now.copy();
            w.leads[both / 16] = both % 16;
            for (int b = 0; b < w.blocks.size(); b++) if (b != block) w.blocks.get(b).at = 0;
            if (w.pass(n).blocks.get(block).at == thought) return what == 0 ? 1 : both;
        }
        return NOT;
    }

    public int byTurns(int n, int what) {
        if (n < 1 || n > 4 || what < 0 || what > 1) return VOID;
        int best = VOID, whom = 10;
        for (int b : now.closed()) {
            World w = now.copy();
            int v = w.open(b) + game(w, n - 1, false);
            if (v > best) {
                best = v;
                whom = b;
            }
        }
        if (what == 1) return whom;
        return whom == 10 ? 0 : best;
    }

    private static int game(World w, int left, boolean first) {
        if (left == 0 || w.closed().isEmpty()) return 0;
        int best = first ? -99999 : 99999;
        for (int b : w.closed()) {
            World then = w.copy();
            int said = then.open(b);
            int v = (first ? said : -said) + game(then, left - 1, !first);
            best = first ? Math.max(best, v) : Math.min(best, v);
        }
        return best;
    }

    public int drawn(int seed, int nmz, int block) {
        if (nmz < 0) return BAD;
        int n = nmz / 10000, m = nmz % 10000 / 100, zeal = nmz % 100;
        if (n < 1 || n > 30 || m < 1 || m > 60 || zeal > 12 || (block != -1 && !isBlock(block))) return BAD;
        int z = seed, said = 0, often = 0, many = now.blocks.size();
        for (int age = 0; age < n; age++) {
            World w = now.copy();
            for (int c = 0; c < m; c++) {
                z = z * 1103515245 + 12345;
                if (many > 0 && (z >>> 16) % 12 < zeal && w.blocks.get((z >>> 8) % many).open == 0) said += w.open((z >>> 8) % many);
                w.pass(1);
            }
            if (block >= 0) often += w.blocks.get(block).open;
        }
        return block < 0 ? said : often;
    }

    // ---- in deed

    public int century() {
        now.pass(1);
        return now.century;
    }

    public int open(int block) {
        if (!isBlock(block)) return BAD;
        return now.blocks.get(block).open == 1 ? STATE : now.open(block);
    }

    public int hours(int n) {
        if (n < 1 || n > 99) return BAD;
        int died = 0;
        for (Block b : now.blocks) {
            if (b.open == 0 || b.dead == 1) continue;
            b.lives -= n;
            if (b.lives <= 0) {
                b.lives = 0;
                b.dead = 1;
                died++;
            }
        }
        now.led[4] += died;
        return died;
    }

    public int led(int what) {
        return what < 0 || what > 4 ? BAD : now.led[what];
    }

    public int image() {
        kept = now.copy();
        return now.led[1];
    }

    public int back() {
        if (kept == null) return STATE;
        World image = kept.copy();
        for (int b = 0; b < image.blocks.size(); b++) {
            image.blocks.get(b).bed = now.blocks.get(b).bed;
            now.blocks.set(b, image.blocks.get(b));
        }
        now.century = image.century;
        now.led = image.led;
        return now.led[1];
    }

    public int undo() {
        if (done.isEmpty()) return STATE;
        int[] c = done.remove(done.size() - 1);
        undone.add(c);
        set(c[0], c[1], c[2]);
        return done.size();
    }

    public int redo() {
        if (undone.isEmpty()) return STATE;
        int[] c = undone.remove(undone.size() - 1);
        done.add(c);
        set(c[0], c[1], c[3]);
        return undone.size();
    }

    // ---- acts, shelves: Java's own ways

    interface Thinks {
        int n();
        void began(int body);
        default int thinks(int x) { began(1); return x + n(); }
    }

    interface Tells {
        void began(int body);
        int says(int x);
        int blinks(int x);
        default int tells(int x) { began(2); return says(x) - blinks(1); }
    }

    static class Toad implements Thinks, Tells {
        private final int n;
        private final Model model;
        Toad(int n, Model model) { this.n = n; this.model = model; }
        public int n() { return n; }
        public void began(int body) { model.ran.add(body); }
        public int says(int x) { began(10); return thinks(x) * 2; }
        public int blinks(int x) { began(11); return x ^ n; }
    }

    static class Mason extends Toad {
        Mason(int n, Model m) { super(n, m); }
        public int thinks(int x) { began(20); return super.thinks(x) + 3; }
    }

    static class Lias extends Toad {
        Lias(int n, Model m) { super(n, m); }
        public int says(int x) { began(30); return -super.says(x); }
    }

    static class Proof extends Lias {
        Proof(int n, Model m) { super(n, m); }
        public int blinks(int x) { began(40); return super.blinks(x) * 3; }
        public int says(int x) { began(41); return super.says(x + 1); }
    }

    static class Dean extends Mason {
        Dean(int n, Model m) { super(n, m); }
        public int blinks(int x) { began(50); return super.blinks(x) - thinks(2); }
    }

    static class Slab extends Proof {
        Slab(int n, Model m) { super(n, m); }
        public int tells(int x) { began(60); return super.tells(x) ^ 5; }
    }

    static class Saucer extends Toad {
        Saucer(int n, Model m) { super(n, m); }
        public int thinks(int x) { began(70); return super.thinks(x) * 2; }
    }

    static class Bishop extends Dean {
        Bishop(int n, Model m) { super(n, m); }
        public int says(int x) { began(80); return super.says(x) + blinks(2); }
        public int tells(int x) { began(81); return super.tells(x) - 1; }
    }

    private static final List<Class<?>> KINDS = Arrays.asList(
        Toad.class, Mason.class, Lias.class, Proof.class, Dean.class, Slab.class, Saucer.class, Bishop.class);

    public int body(int kind) {
        if (kind < 0 || kind > 7) return BAD;
        int n = toads.size();
        if (n == 50) return FULL;
        switch (kind) {
            case 0: toads.add(new Toad(n, this)); break;
            case 1: toads.add(new Mason(n, this)); break;
            case 2: toads.add(new Lias(n, this)); break;
            case 3: toads.add(new Proof(n, this)); break;
            case 4: toads.add(new Dean(n, this)); break;
            case 5: toads.add(new Slab(n, this)); break;
            case 6: toads.add(new Saucer(n, this)); break;
            default: toads.add(new Bishop(n, this)); break;
        }
        return n;
    }

    public int act(int body, int act, int x) {
        ran = new ArrayList<>();
        if (body < 0 || body >= toads.size()) return 0;
        Toad t = toads.get(body);
        switch (act) {
            case 0: return t.thinks(x);
            case 1: return t.says(x);
            case 2: return t.blinks(x);
            case 3: return t.tells(x);
            default: return 0;
        }
    }

    public int trace(int i) {
        return i >= 0 && i < ran.size() && i < 24 ? ran.get(i) : BAD;
    }

    public int keep(int shelf, int body) {
        if (shelf < 0 || shelf > 5 || body < -1 || body >= toads.size()) return BAD;
        shelves[shelf] = body < 0 ? null : toads.get(body);
        return 1;
    }

    public int row(int shelf, int sort, int n) {
        if (shelf < 0 || shelf > 5 || sort < 0 || sort > 4 || n > 60) return BAD;
        try {
            shelves[shelf] = sort == 0 ? new byte[n] : sort == 1 ? new short[n] : sort == 2 ? new int[n]
                : sort == 3 ? new long[n] : new boolean[n];
        } catch (NegativeArraySizeException e) {
            return -14;
        }
        return 1;
    }

    public int put(int shelf, int i, long v) {
        if (shelf < 0 || shelf > 5) return BAD;
        Object o = shelves[shelf];
        try {
            if (o == null) return -11;
            else if (o instanceof byte[] r) r[i] = (byte) v;
            else if (o instanceof short[] r) r[i] = (short) v;
            else if (o instanceof int[] r) r[i] = (int) v;
            else if (o instanceof long[] r) r[i] = v;
            else ((boolean[]) o)[i] = v != 0;
        } catch (ClassCastException e) {
            return -12;
        } catch (ArrayIndexOutOfBoundsException e) {
            return -13;
        }
        return 1;
    }

    public long element(int shelf, int i) {
        if (shelf < 0 || shelf > 5) return Long.MIN_VALUE;
        try {
            Object o = shelves[shelf];
            if (o instanceof boolean[] r) return r[i] ? 1 : 0;
            return java.lang.reflect.Array.getLong(o, i);
        } catch (NullPointerException | IllegalArgumentException | ArrayIndexOutOfBoundsException e) {
            return Long.MIN_VALUE;
        }
    }

    @SuppressWarnings("SuspiciousSystemArraycopy")
    public int shift(int shelf, int i, int other, int j, int n) {
        if (shelf < 0 || shelf > 5 || other < 0 || other > 5) return BAD;
        try {
            System.arraycopy(shelves[shelf], i, shelves[other], j, n);
        } catch (NullPointerException e) {
            return -11;
        } catch (ArrayStoreException e) {
            return -12;
        } catch (IndexOutOfBoundsException e) {
            return -13;
        }
        return n;
    }

    public int taken(int shelf, int k) {
        if (shelf < 0 || shelf > 5 || k < 0 || k > 7) return BAD;
        if (shelves[shelf] == null) return -11;
        return KINDS.get(k).isInstance(shelves[shelf]) ? KINDS.indexOf(shelves[shelf].getClass()) : -12;
    }

    public int count(int what) {
        switch (what) {
            case 0: return now.blocks.size();
            case 1: return now.open();
            case 2: return tape.length();
            case 3: return done.size();
            case 4: return toads.size();
            case 5: return ran.size();
            default: return BAD;
        }
    }
}
