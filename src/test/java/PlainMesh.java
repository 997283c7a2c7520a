import java.util.ArrayList;
import java.util.List;
import java.util.NoSuchElementException;
import java.util.TreeMap;
import java.util.TreeSet;

/**
 * The document once more, written as plainly as can be with the whole Java library and without regard to room:
 * runs of HoppingMesh are compared with it.
 */
final class PlainMesh {
    static final int NONE = -1;
    static final int HIDDEN = -1000000;

    static final class Mail {
        int sort;
        int kind;
        int result = NONE;
        int seq = NONE;
        int n = NONE;
        List<Integer> cells = new ArrayList<>();

        Mail copy() {
            Mail m = new Mail();
            m.sort = sort;
            m.kind = kind;
            m.result = result;
            m.seq = seq;
            m.n = n;
            m.cells = new ArrayList<>(cells);
            return m;
        }
    }

    /** Of a TABLE each CELL's number with SENT and GOT; a RECEIVER's stay 0. */
    static final class End {
        int node;
        int seq;
        TreeMap<Integer, int[]> table = new TreeMap<>();
        boolean waits;
        int from;
        int kind;
        List<Integer> promised = new ArrayList<>();

        End copy() {
            End e = new End();
            e.node = node;
            e.seq = seq;
            for (var x : table.entrySet()) {
                e.table.put(x.getKey(), x.getValue().clone());
            }
            e.waits = waits;
            e.from = from;
            e.kind = kind;
            e.promised = new ArrayList<>(promised);
            return e;
        }

        void quit() {
            waits = false;
            promised.clear();
        }

        void next() {
            seq = seq == 255 ? 1 : seq + 1;
        }

        boolean come(int cell) {
            if (table.containsKey(cell) || table.size() == 6) {
                return false;
            }
            table.put(cell, new int[2]);
            return true;
        }
    }

    static final class Pair {
        int number;
        End s = new End();
        End r = new End();
        int steps;
        int load;
        int queue;
        int used;
        int passed;
        int gotNow;
        Mail mail;

        Pair copy() {
            Pair p = new Pair();
            p.number = number;
            p.s = s.copy();
            p.r = r.copy();
            p.steps = steps;
            p.load = load;
            p.queue = queue;
            p.used = used;
            p.passed = passed;
            p.mail = mail == null ? null : mail.copy();
            return p;
        }

        boolean agree() {
            return s.seq == r.seq && s.table.keySet().equals(r.table.keySet());
        }

        boolean idle() {
            return !s.waits && mail == null;
        }

        int badCell() {
            double best = -1;
            for (int[] c : s.table.values()) {
                if (c[0] >= 4) {
                    best = Math.max(best, (double) c[1] / c[0]);
                }
            }
            int bad = NONE;
            double least = 9;
            for (var x : s.table.entrySet()) {
                int[] c = x.getValue();
                if (c[0] >= 4 && (double) c[1] / c[0] * 2 < best && (double) c[1] / c[0] < least) {
                    least = (double) c[1] / c[0];
                    bad = x.getKey();
                }
            }
            return bad;
        }
    }

    static final class World {
        int slots = 10;
        int offsets = 2;
        int timeout = 3;
        int window = 4;
        boolean auto = true;
        int frame;
        TreeSet<Integer> jammed = new TreeSet<>();
        List<Pair> pairs = new ArrayList<>();
        List<int[]> log = new ArrayList<>();

        World copy() {
            World w = new World();
            w.slots = slots;
            w.offsets = offsets;
            w.timeout = timeout;
            w.window = window;
            w.auto = auto;
            w.frame = frame;
            w.jammed = new TreeSet<>(jammed);
            for (Pair p : pairs) {
                w.pairs.add(p.copy());
            }
            w.log = new ArrayList<>(log);
            return w;
        }

        boolean free(int node, int slot) {
            for (Pair p : pairs) {
                for (End e : List.of(p.s, p.r)) {
                    if (e.node == node) {
                        for (int c : e.table.keySet()) {
                            if (c / 10 == slot) {
                                return false;
                            }
                        }
                        for (int c : e.promised) {
                            if (c / 10 == slot) {
                                return false;
                            }
                        }
                    }
                }
            }
            return true;
        }

        List<Integer> offers(int pair, int node, int slot) {
            List<Integer> out = new ArrayList<>();
            for (int i = 0; i < slots; i++) {
                int t = (slot + i) % slots;
                if (free(node, t)) {
                    out.add(10 * t + (t + pair) % offsets);
                }
            }
            return out;
        }

        static List<Integer> first(List<Integer> of, int n) {
            return new ArrayList<>(of.subList(0, Math.min(n, of.size())));
        }

        /** A MOVE is of the CELL whose number is n. NONE: it can't be begun. */
        int begin(Pair p, int kind, int n) {
            if (!p.idle()) {
                return NONE;
            }
            Mail m = new Mail();
            m.kind = kind;
            m.seq = p.s.seq;
            List<Integer> promised = new ArrayList<>();
            if (kind == 0) {
                m.n = n;
                if (p.steps == 2) {
                    promised = first(offers(p.number, p.s.node, 0), n + 1);
                    if (promised.isEmpty()) {
                        return NONE;
                    }
                    m.cells.addAll(promised);
                }
            } else if (kind == 1) {
                m.n = n;
                List<Integer> all = new ArrayList<>(p.s.table.keySet());
                m.cells.addAll(all.subList(Math.max(0, all.size() - n), all.size()));
                if (m.cells.isEmpty()) {
                    return NONE;
                }
            } else if (kind == 2) {
                promised = first(offers(p.number, p.s.node, (n / 10 + 1) % slots), 2);
                if (promised.isEmpty()) {
                    return NONE;
                }
                m.cells.add(n);
                m.cells.addAll(promised);
            }
            p.mail = m;
            p.s.waits = true;
            p.s.from = frame;
            p.s.kind = kind;
            p.s.promised = promised;
            return m.cells.size();
        }

        void receive(Pair p, Mail m) {
            p.r.quit();
            Mail a = new Mail();
            a.sort = 1;
            a.kind = m.kind;
            a.n = m.n;
            a.result = 0;
            p.mail = a;
            if (m.kind == 3) {
                p.r.table.clear();
                p.r.seq = 0;
                return;
            }
            if (p.r.seq != m.seq) {
                a.result = 2;
                return;
            }
            if (m.kind == 0 && p.steps == 3) {
                a.cells = first(offers(p.number, p.r.node, 0), m.n + 1);
                if (a.cells.isEmpty()) {
                    a.result = 1;
                } else {
                    p.r.promised = new ArrayList<>(a.cells);
                    p.r.waits = true;
                    p.r.from = frame;
                }
                return;
            }
            if (m.kind == 0) {
                for (int c : m.cells) {
                    if (a.cells.size() < m.n && free(p.r.node, c / 10) && p.r.come(c)) {
                        a.cells.add(c);
                    }
                }
            } else if (m.kind == 1) {
                for (int c : m.cells) {
                    if (p.r.table.remove(c) != null) {
                        a.cells.add(c);
                    }
                }
            } else if (p.r.table.containsKey(m.cells.get(0))) {
                for (int c : m.cells.subList(1, m.cells.size())) {
                    if (a.cells.isEmpty() && free(p.r.node, c / 10)) {
                        p.r.table.remove(m.cells.get(0));
                        p.r.come(c);
                        a.cells.add(m.cells.get(0));
                        a.cells.add(c);
                    }
                }
            }
            if (a.cells.isEmpty()) {
                a.result = 1;
            } else {
                p.r.next();
            }
        }

        void answered(Pair p, Mail m) {
            p.s.quit();
            if (m.result == 2) {
                begin(p, 3, 0);
            }
            if (m.result != 0) {
                return;
            }
            if (m.kind == 3) {
                p.s.table.clear();
                p.s.seq = 0;
            } else if (m.kind == 0 && p.steps == 3) {
                Mail c = new Mail();
                c.sort = 2;
                c.n = m.n;
                for (int cell : m.cells) {
                    if (c.cells.size() < m.n && free(p.s.node, cell / 10) && p.s.come(cell)) {
                        c.cells.add(cell);
                    }
                }
                p.mail = c;
                if (!c.cells.isEmpty()) {
                    p.s.next();
                }
            } else {
                if (m.kind == 0) {
                    m.cells.forEach(p.s::come);
                } else if (m.kind == 1) {
                    m.cells.forEach(p.s.table::remove);
                } else if (p.s.table.remove(m.cells.get(0)) != null) {
                    p.s.come(m.cells.get(1));
                }
                p.s.next();
            }
        }

        void confirmed(Pair p, Mail m) {
            if (p.r.waits) {
                m.cells.forEach(p.r::come);
                if (!m.cells.isEmpty()) {
                    p.r.next();
                }
                p.r.quit();
            }
        }

        void timeouts() {
            for (Pair p : pairs) {
                for (End e : List.of(p.s, p.r)) {
                    if (e.waits && frame >= e.from + timeout && p.mail == null) {
                        e.quit();
                        if (e == p.s && e.kind == 3) {
                            e.table.clear();
                            e.seq = 0;
                        }
                    }
                }
            }
        }

        int channel(int cell, int atFrame, List<Integer> hops) {
            int x = atFrame * slots + cell / 10 + cell % 10;
            return hops.isEmpty() ? x % offsets : hops.get(x % hops.size());
        }

        void send(List<Integer> hops) {
            List<List<Integer>> sending = new ArrayList<>();
            for (Pair p : pairs) {
                p.queue = Math.min(99, p.queue + p.load);
                sending.add(first(new ArrayList<>(p.s.table.keySet()), p.queue));
            }
            for (Pair p : pairs) {
                p.gotNow = 0;
                for (int c : sending.get(p.number)) {
                    boolean got = p.r.table.containsKey(c) && !jammed.contains(channel(c, frame, hops));
                    for (Pair q : pairs) {
                        got = got && (q == p || !sending.get(q.number).contains(c));
                    }
                    int[] x = p.s.table.get(c);
                    x[0] = Math.min(999, x[0] + 1);
                    if (got) {
                        x[1] = Math.min(999, x[1] + 1);
                        p.queue--;
                        p.gotNow++;
                    }
                }
                p.used += sending.get(p.number).size();
                p.passed += p.s.table.size();
            }
        }

        void follow() {
            for (Pair p : pairs) {
                if (auto && p.idle()) {
                    if (4 * p.used > 3 * p.passed || p.s.table.isEmpty() && p.queue > 0) {
                        begin(p, 0, 1);
                    } else if (4 * p.used < p.passed && p.s.table.size() >= 2) {
                        begin(p, 1, 1);
                    } else if (p.badCell() != NONE) {
                        begin(p, 2, p.badCell());
                    }
                }
                p.used = 0;
                p.passed = 0;
            }
        }

        void go(List<Integer> hops) {
            for (Pair p : pairs) {
                Mail m = p.mail;
                p.mail = null;
                if (m != null && m.sort == 0) {
                    receive(p, m);
                } else if (m != null && m.sort == 1) {
                    answered(p, m);
                } else if (m != null) {
                    confirmed(p, m);
                }
            }
            timeouts();
            send(hops);
            if ((frame + 1) % window == 0) {
                follow();
            }
            int letters = 0;
            int both = 0;
            int got = 0;
            for (Pair p : pairs) {
                letters += p.mail == null ? 0 : 1;
                TreeSet<Integer> common = new TreeSet<>(p.s.table.keySet());
                common.retainAll(p.r.table.keySet());
                both += common.size();
                got += p.gotNow;
            }
            log.add(0, new int[] {letters, both, got});
            if (log.size() > 60) {
                log.remove(60);
            }
            frame++;
        }

        boolean allAgree() {
            return pairs.stream().allMatch(Pair::agree);
        }
    }

    private final List<Integer> tape = new ArrayList<>();
    private List<Integer> hops = new ArrayList<>();
    private World world;
    private World image;
    private final List<World> acts = new ArrayList<>();
    private final int[] status = new int[5];
    private int loss = 2;

    int feed(int a, int b, int c, int d, int e) {
        List<Integer> more = new ArrayList<>();
        for (int w : new int[] {a, b, c, d, e}) {
            for (int i = 3; i >= 0; i--) {
                if ((w >> 8 * i & 255) != 0) {
                    more.add(w >> 8 * i & 255);
                }
            }
        }
        if (tape.size() + more.size() > 240) {
            return NONE;
        }
        tape.addAll(more);
        return tape.size();
    }

    boolean end(int n) {
        if (n < 0 || n > tape.size()) {
            return false;
        }
        tape.subList(n, tape.size()).clear();
        return true;
    }

    int fault(int sort) {
        if (sort == 0) {
            return meshFault(new World());
        }
        return sort == 1 ? hopsFault(new ArrayList<>()) : -2;
    }

    private int hopsFault(List<Integer> into) {
        for (int i = 0; i < tape.size(); i++) {
            int c = tape.get(i);
            if (c == ' ') {
                continue;
            }
            if (c < '0' || c > '9' || into.size() == 16) {
                return i;
            }
            into.add(c - '0');
        }
        return into.isEmpty() ? tape.size() : NONE;
    }

    /** Sign by sign: what may come next is told by a state. */
    private int meshFault(World w) {
        final int clause = 0;
        final int item = 1;
        final int number = 2;
        final int digit1 = 3;
        final int digit2 = 4;
        int state = clause;
        boolean rules = false;
        String seen = "";
        char kind = 0;
        char letter = 0;
        int value = 0;
        List<int[]> ps = new ArrayList<>();
        TreeMap<Character, int[]> bounds = new TreeMap<>();
        bounds.put('w', new int[] {4, 16});
        bounds.put('c', new int[] {1, 4});
        bounds.put('t', new int[] {2, 9});
        bounds.put('m', new int[] {2, 9});
        bounds.put('u', new int[] {0, 1});
        bounds.put('a', new int[] {0, 5});
        bounds.put('b', new int[] {0, 5});
        bounds.put('k', new int[] {2, 3});
        bounds.put('l', new int[] {0, 9});
        for (int i = 0; i <= tape.size(); i++) {
            char c = i < tape.size() ? (char) (int) tape.get(i) : 0;
            boolean isDigit = c >= '0' && c <= '9';
            if (state == digit1 && isDigit) {
                value = value * 10 + c - '0';
                state = digit2;
                continue;
            }
            if (state == digit2 && isDigit) {
                return i;
            }
            if (state == digit1 || state == digit2) {
                int[] lim = bounds.get(letter);
                if (value < lim[0] || value > lim[1]) {
                    return i - 1;
                }
                switch (letter) {
                    case 'w' -> w.slots = value;
                    case 'c' -> w.offsets = value;
                    case 't' -> w.timeout = value;
                    case 'm' -> w.window = value;
                    case 'u' -> w.auto = value == 1;
                    default -> ps.get(ps.size() - 1)["abkl".indexOf(letter)] = value;
                }
                state = item;
            }
            if (c == ' ') {
                continue;
            }
            if (i == tape.size()) {
                if (state != item) {
                    return i;
                }
                break;
            }
            if (state == clause) {
                if (c == 's' && !rules) {
                    rules = true;
                } else if (c == 'p' && ps.size() < 6) {
                    ps.add(new int[] {0, 1, 2, 1});
                } else {
                    return i;
                }
                kind = c;
                seen = "";
                state = item;
            } else if (state == item) {
                if (c == ';') {
                    state = clause;
                } else if ((kind == 's' ? "wctmu" : "abkl").indexOf(c) >= 0 && seen.indexOf(c) < 0) {
                    seen += c;
                    letter = c;
                    value = 0;
                    state = number;
                } else {
                    return i;
                }
            } else {
                if (!isDigit) {
                    return i;
                }
                value = c - '0';
                state = digit1;
            }
        }
        TreeSet<Integer> ways = new TreeSet<>();
        for (int[] p : ps) {
            if (p[0] == p[1] || !ways.add(p[0] * 10 + p[1])) {
                return tape.size();
            }
            Pair x = new Pair();
            x.number = w.pairs.size();
            x.s.node = p[0];
            x.r.node = p[1];
            x.steps = p[2];
            x.load = p[3];
            w.pairs.add(x);
        }
        return ps.isEmpty() ? tape.size() : NONE;
    }

    int text(int sort) {
        if (sort == 0) {
            World w = new World();
            if (meshFault(w) != NONE) {
                return NONE;
            }
            world = w;
            image = null;
            acts.clear();
            tape.clear();
            return w.pairs.size();
        }
        List<Integer> h = new ArrayList<>();
        if (sort != 1 || hopsFault(h) != NONE) {
            return NONE;
        }
        hops = h;
        tape.clear();
        return h.size();
    }

    int rule(int what) {
        if (world == null || what < 0 || what > 4) {
            return NONE;
        }
        return new int[] {world.slots, world.offsets, world.timeout, world.window, world.auto ? 1 : 0}[what];
    }

    private boolean has(int pair) {
        return world != null && pair >= 0 && pair < world.pairs.size();
    }

    int pair(int pair, int what) {
        if (!has(pair) || what < 0 || what > 10) {
            throw new NoSuchElementException();
        }
        Pair p = world.pairs.get(pair);
        return new int[] {p.s.node, p.r.node, p.steps, p.load, p.queue, p.used, p.passed, p.s.seq, p.r.seq,
            p.s.table.size(), p.r.table.size()}[what];
    }

    int cell(int pair, int side, int i, int what) {
        if (!has(pair) || side < 0 || side > 1 || what < 0 || what > 2 || side == 1 && what > 0) {
            return NONE;
        }
        Pair p = world.pairs.get(pair);
        End e = side == 0 ? p.s : p.r;
        if (i < 0 || i >= e.table.size()) {
            return NONE;
        }
        int number = new ArrayList<>(e.table.keySet()).get(i);
        return what == 0 ? number : e.table.get(number)[what - 1];
    }

    int waits(int pair, int side, int what) {
        if (!has(pair) || side < 0 || side > 1 || what < 0 || what > 2) {
            return NONE;
        }
        End e = side == 0 ? world.pairs.get(pair).s : world.pairs.get(pair).r;
        return what == 0 ? e.waits ? 1 : 0 : what == 1 ? e.waits ? e.from : NONE : e.promised.size();
    }

    int letter(int pair, int what) {
        if (!has(pair) || world.pairs.get(pair).mail == null || what < 0 || what > 12) {
            return NONE;
        }
        Mail m = world.pairs.get(pair).mail;
        if (what > 5) {
            return what - 6 < m.cells.size() ? m.cells.get(what - 6) : NONE;
        }
        return new int[] {m.sort, m.kind, m.result, m.seq, m.n, m.cells.size()}[what];
    }

    int channel(int frame, int cell) {
        if (world == null || frame < 0 || frame > 9999 || cell < 0 || cell / 10 >= world.slots
                || cell % 10 >= world.offsets) {
            return NONE;
        }
        return world.channel(cell, frame, hops);
    }

    boolean loss(int v) {
        boolean ok = v >= 0 && v <= 9 && v != loss;
        loss = ok ? v : loss;
        return ok;
    }

    private int refuse(int i) {
        status[i]++;
        return NONE;
    }

    private void act() {
        acts.add(world.copy());
        if (acts.size() > 40) {
            acts.remove(0);
        }
    }

    int frames(int n) {
        if (world == null) {
            return refuse(0);
        }
        if (n < 1 || n > 40) {
            return refuse(1);
        }
        if (world.frame + n > 9999) {
            return refuse(4);
        }
        for (int i = 0; i < n; i++) {
            act();
            world.go(hops);
        }
        return world.frame;
    }

    int deal(int pair, int kind, int n) {
        if (!has(pair)) {
            return refuse(0);
        }
        int low = kind == 0 || kind == 1 ? 1 : 0;
        int high = kind == 0 || kind == 1 ? 3 : kind == 2 ? 5 : 0;
        if (kind < 0 || kind > 3 || n < low || n > high) {
            return refuse(1);
        }
        Pair p = world.pairs.get(pair);
        if (kind == 2 && n >= p.s.table.size()) {
            return refuse(2);
        }
        World before = world.copy();
        int done = world.begin(p, kind, kind == 2 ? new ArrayList<>(p.s.table.keySet()).get(n) : n);
        if (done == NONE) {
            return refuse(3);
        }
        World after = world;
        world = before;
        act();
        world = after;
        return done;
    }

    int lose(int pair) {
        if (!has(pair)) {
            return refuse(0);
        }
        if (world.pairs.get(pair).mail == null) {
            return refuse(2);
        }
        act();
        int sort = world.pairs.get(pair).mail.sort;
        world.pairs.get(pair).mail = null;
        return sort;
    }

    private boolean turn(int channel) {
        if (!world.jammed.remove(channel)) {
            return world.jammed.add(channel);
        }
        return false;
    }

    int jam(int channel) {
        if (world == null) {
            return refuse(0);
        }
        if (channel < 0 || channel > 15) {
            return refuse(1);
        }
        act();
        return turn(channel) ? 1 : 0;
    }

    int load(int pair, int v) {
        if (!has(pair)) {
            return refuse(0);
        }
        if (v < 0 || v > 9) {
            return refuse(1);
        }
        int old = world.pairs.get(pair).load;
        if (old == v) {
            return refuse(2);
        }
        act();
        world.pairs.get(pair).load = v;
        return old;
    }

    int auto() {
        if (world == null) {
            return refuse(0);
        }
        act();
        world.auto = !world.auto;
        return world.auto ? 1 : 0;
    }

    private long x;

    private int draw(int j) {
        x = x * 6364136223846793005L + 1442695040888963407L;
        return (int) Long.remainderUnsigned(x >>> 33, j);
    }

    int years(int n, long seed) {
        if (world == null || n < 1 || n > 40 || world.frame + n > 9999) {
            return NONE;
        }
        x = seed;
        for (int i = 0; i < n; i++) {
            act();
            if (draw(10) < loss) {
                world.pairs.get(draw(world.pairs.size())).mail = null;
            }
            if (draw(20) < 1) {
                turn(draw(16));
            }
            world.go(hops);
        }
        return world.frame;
    }

    int status(int what) {
        return what >= 0 && what < 5 ? status[what] : NONE;
    }

    int undo() {
        if (acts.isEmpty()) {
            return NONE;
        }
        world = acts.remove(acts.size() - 1);
        return acts.size();
    }

    int log(int i, int what) {
        if (world == null || i < 0 || i >= world.log.size() || what < 0 || what > 2) {
            return NONE;
        }
        return world.log.get(i)[what];
    }

    int offer(int pair, int node, int slot, int i) {
        if (!has(pair) || slot < 0 || slot >= world.slots || i < -1) {
            return NONE;
        }
        Pair p = world.pairs.get(pair);
        if (node != p.s.node && node != p.r.node) {
            return NONE;
        }
        List<Integer> o = world.offers(pair, node, slot);
        return i == NONE ? o.size() : i < o.size() ? o.get(i) : NONE;
    }

    int comes(int pair, int n, int what) {
        if (!has(pair) || n < 0 || n > 60 || what < 0 || what > 2) {
            return NONE;
        }
        World w = world.copy();
        Pair p = w.pairs.get(pair);
        int got = 0;
        for (int i = 0; i < n; i++) {
            w.go(hops);
            got += p.gotNow;
        }
        return what == 0 ? got : what == 1 ? p.queue : p.s.table.size();
    }

    int agree(int pair) {
        return !has(pair) ? NONE : world.pairs.get(pair).agree() ? 1 : 0;
    }

    int healed() {
        if (world == null) {
            return NONE;
        }
        World w = world.copy();
        for (int i = 0; i <= 99; i++) {
            if (w.allAgree()) {
                return i;
            }
            w.go(hops);
        }
        return NONE;
    }

    int steady() {
        if (world == null) {
            return NONE;
        }
        World w = world.copy();
        List<List<Integer>> sizes = new ArrayList<>();
        for (int i = 0; i <= 80; i++) {
            List<Integer> now = new ArrayList<>();
            w.pairs.forEach(p -> now.add(p.s.table.size()));
            sizes.add(now);
            w.go(hops);
        }
        for (int s = 0; s <= 40; s++) {
            boolean all = true;
            for (int j = 1; j <= 40; j++) {
                all = all && sizes.get(s).equals(sizes.get(s + j));
            }
            if (all) {
                return s;
            }
        }
        return NONE;
    }

    int harm(int n, int what) {
        if (world == null || n < 1 || n > 6 || what < 0 || what > 1) {
            return NONE;
        }
        int which = NONE;
        int most = NONE;
        World trunk = world.copy();
        int ahead = 0;
        for (int k = 0; k < n; k++) {
            for (int p = 0; p < trunk.pairs.size(); p++) {
                if (trunk.pairs.get(p).mail == null) {
                    continue;
                }
                World w = trunk.copy();
                w.pairs.get(p).mail = null;
                int bad = ahead;
                for (int i = k; i < 30; i++) {
                    w.go(hops);
                    bad += w.allAgree() ? 0 : 1;
                }
                if (bad > most) {
                    most = bad;
                    which = 10 * k + p;
                }
            }
            trunk.go(hops);
            ahead += trunk.allAgree() ? 0 : 1;
        }
        return what == 0 ? which : most;
    }

    int odds(int n, int chance) {
        if (world == null || n < 0 || n > 6 || chance < 0 || chance > 100) {
            return NONE;
        }
        return (int) parts(world.copy(), n, chance, 1000000000L);
    }

    private long parts(World w, int n, int chance, long parts) {
        if (n == 0) {
            return w.allAgree() ? parts : 0;
        }
        long lost = parts * chance / 100;
        World l = w.copy();
        l.pairs.forEach(p -> p.mail = null);
        l.go(hops);
        World k = w.copy();
        k.go(hops);
        return parts(l, n - 1, chance, lost) + parts(k, n - 1, chance, parts - lost);
    }

    int shares(int pair, int c) {
        if (!has(pair) || c < 0 || c > 999) {
            return NONE;
        }
        long all = 0;
        long own = 0;
        for (Pair p : world.pairs) {
            for (int[] x : p.s.table.values()) {
                all += x[1];
                own += p.number == pair ? x[1] : 0;
            }
        }
        return all == 0 ? 0 : (int) (c * own / all);
    }

    int node(int node, int what) {
        if (world == null || node < 0 || node > 5 || what < 0 || what > 1) {
            return NONE;
        }
        int bits = 0;
        for (int s = 0; s < world.slots; s++) {
            int have = 0;
            for (Pair p : world.pairs) {
                for (End e : List.of(p.s, p.r)) {
                    for (int c : e.table.keySet()) {
                        have += e.node == node && c / 10 == s ? 1 : 0;
                    }
                }
            }
            if (what == 0 ? !world.free(node, s) : have > 1) {
                bits |= 1 << s;
            }
        }
        return bits;
    }

    int most(int what) {
        if (world == null || what < 0 || what > 9) {
            return HIDDEN;
        }
        if (what == 8) {
            return world.jammed.stream().mapToInt(c -> 1 << c).sum();
        }
        if (what == 9) {
            return world.pairs.stream().mapToInt(Pair::badCell).filter(c -> c != NONE).findFirst().orElse(NONE);
        }
        int bits = 0;
        int best = NONE;
        int at = NONE;
        for (Pair p : world.pairs) {
            boolean shared = world.pairs.stream().anyMatch(q -> q != p
                    && q.s.table.keySet().stream().anyMatch(p.s.table::containsKey));
            boolean mark = new boolean[] {shared, p.s.waits, p.r.waits, p.mail != null, !p.agree(), false, false,
                false}[what];
            bits |= mark ? 1 << p.number : 0;
            int value = what == 5 ? p.s.table.size() : what == 6 ? p.queue : p.load;
            if (value > best) {
                best = value;
                at = p.number;
            }
        }
        return what < 5 ? bits : at;
    }

    int image() {
        if (world == null) {
            return NONE;
        }
        image = world.copy();
        return image.frame;
    }

    int back() {
        if (image == null) {
            return NONE;
        }
        world = image.copy();
        acts.clear();
        return world.frame;
    }

    int count(int what) {
        if (what < 0 || what > 6) {
            return HIDDEN;
        }
        boolean no = world == null;
        return new int[] {no ? 0 : world.pairs.size(), hops.size(), tape.size(), no ? 0 : world.frame, loss,
            no ? 0 : world.log.size(), acts.size()}[what];
    }
}
