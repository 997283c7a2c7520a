import java.util.Arrays;
import java.util.NoSuchElementException;

/**
 * Hopping mesh schedules: pairs of nodes deal for cells of a frame by letters that may be lost.
 * The words in capitals are those of the document.
 */
public final class HoppingMesh {
    public static final int NONE = -1;
    public static final int HIDDEN = -1000000;

    private static final int NO_SUCH_SORT = -2;
    private static final int MESH = 0;
    private static final int HOPS = 1;

    private static final int MOST_PAIRS = 6;
    private static final int MOST_NODES = 6;
    private static final int MOST_SLOTS = 16;
    private static final int MOST_CHANNELS = 16;
    private static final int MOST_HOPS = 16;
    private static final int LAST_FRAME = 9999;
    private static final int FRAMES_A_CALL = 40;

    private static final int ADD = 0;
    private static final int DELETE = 1;
    private static final int MOVE = 2;
    private static final int CLEAR = 3;

    private static final int REQUEST = 0;
    private static final int ANSWER = 1;
    private static final int CONFIRM = 2;

    private static final int OK = 0;
    private static final int NO = 1;
    private static final int ODD = 2;

    private static final int NO_SUCH_ONE = 0;
    private static final int OUT_OF_BOUNDS = 1;
    private static final int IT_IS_SO = 2;
    private static final int CANNOT_BEGIN = 3;
    private static final int BEYOND = 4;

    private final Tape tape = new Tape();
    private final Plan plan = new Plan();
    private final Reader reader = new Reader(tape);
    private final Net net = new Net(plan);
    private final Dealings dealings = new Dealings(net);
    private final Course course = new Course(net, dealings);
    private final Past past = new Past();
    private final Outlook outlook = new Outlook(net);
    private final int[] refusals = new int[5];
    private int lossChance = 2;
    private long drawn;

    public HoppingMesh() {
    }

    public int feed(int a, int b, int c, int d, int e) {
        int more = Tape.signsIn(a) + Tape.signsIn(b) + Tape.signsIn(c) + Tape.signsIn(d) + Tape.signsIn(e);
        if (!tape.hasRoom(more)) {
            return NONE;
        }
        tape.append(a);
        tape.append(b);
        tape.append(c);
        tape.append(d);
        tape.append(e);
        return tape.size();
    }

    public boolean end(int n) {
        return tape.cutTo(n);
    }

    public int fault(int sort) {
        if (sort == MESH) {
            return reader.meshFault();
        }
        return sort == HOPS ? reader.hopsFault() : NO_SUCH_SORT;
    }

    public int text(int sort) {
        if (sort == MESH && reader.meshFault() == NONE) {
            plan.takeMesh(reader);
            net.startAnew();
            past.startAnew();
            tape.cutTo(0);
            return plan.pairs();
        }
        if (sort == HOPS && reader.hopsFault() == NONE) {
            plan.takeHops(reader);
            tape.cutTo(0);
            return plan.hopCount();
        }
        return NONE;
    }

    public int rule(int what) {
        if (!plan.isTold()) {
            return NONE;
        }
        return what == Plan.AUTO ? net.autoNow() : plan.ruleOf(what);
    }

    public int pair(int pair, int what) throws NoSuchElementException {
        if (!plan.hasPair(pair) || what < 0 || what > 10) {
            throw new NoSuchElementException();
        }
        return what < 3 ? plan.itemOf(pair, what) : net.links[pair].tell(what);
    }

    public int cell(int pair, int side, int i, int what) {
        if (!plan.hasPair(pair)) {
            return NONE;
        }
        if (side == 0) {
            return net.links[pair].sender.tellCell(i, what);
        }
        return side == 1 && what == 0 ? net.links[pair].receiver.numberAt(i) : NONE;
    }

    public int waits(int pair, int side, int what) {
        if (!plan.hasPair(pair) || side < 0 || side > 1) {
            return NONE;
        }
        Link link = net.links[pair];
        return (side == 0 ? link.sender : link.receiver).tellWait(what);
    }

    public int letter(int pair, int what) {
        return plan.hasPair(pair) ? net.links[pair].mail.tell(what) : NONE;
    }

    public int channel(int frame, int cell) {
        if (frame < 0 || frame > LAST_FRAME || !plan.hasCell(cell)) {
            return NONE;
        }
        return plan.channelOf(frame, cell);
    }

    public boolean loss(int v) {
        if (v < 0 || v > 9 || v == lossChance) {
            return false;
        }
        lossChance = v;
        return true;
    }

    public int frames(int n) {
        if (!plan.isTold()) {
            return refuse(NO_SUCH_ONE);
        }
        if (n < 1 || n > FRAMES_A_CALL) {
            return refuse(OUT_OF_BOUNDS);
        }
        if (net.frame() + n > LAST_FRAME) {
            return refuse(BEYOND);
        }
        for (int i = 0; i < n; i++) {
            past.keepAct(net.words);
            goOneFrame();
        }
        return net.frame();
    }

    public int deal(int pair, int kind, int n) {
        if (!plan.hasPair(pair)) {
            return refuse(NO_SUCH_ONE);
        }
        if (!isDealing(kind, n)) {
            return refuse(OUT_OF_BOUNDS);
        }
        Link link = net.links[pair];
        if (kind == MOVE && link.sender.numberAt(n) == NONE) {
            return refuse(IT_IS_SO);
        }
        if (!dealings.canBegin(link, kind)) {
            return refuse(CANNOT_BEGIN);
        }
        past.keepAct(net.words);
        return dealings.begin(link, kind, n);
    }

    public int lose(int pair) {
        if (!plan.hasPair(pair)) {
            return refuse(NO_SUCH_ONE);
        }
        Letter mail = net.links[pair].mail;
        if (!mail.isUnderWay()) {
            return refuse(IT_IS_SO);
        }
        past.keepAct(net.words);
        mail.drop();
        return mail.sort();
    }

    public int jam(int channel) {
        if (!plan.isTold()) {
            return refuse(NO_SUCH_ONE);
        }
        if (channel < 0 || channel >= MOST_CHANNELS) {
            return refuse(OUT_OF_BOUNDS);
        }
        past.keepAct(net.words);
        net.turnJam(channel);
        return net.isJammed(channel) ? 1 : 0;
    }

    public int load(int pair, int v) {
        if (!plan.hasPair(pair)) {
            return refuse(NO_SUCH_ONE);
        }
        if (v < 0 || v > 9) {
            return refuse(OUT_OF_BOUNDS);
        }
        Link link = net.links[pair];
        int before = link.tell(Link.TELL_LOAD);
        if (before == v) {
            return refuse(IT_IS_SO);
        }
        past.keepAct(net.words);
        link.setLoad(v);
        return before;
    }

    public int auto() {
        if (!plan.isTold()) {
            return refuse(NO_SUCH_ONE);
        }
        past.keepAct(net.words);
        net.turnAuto();
        return net.autoNow();
    }

    public int years(int n, long seed) {
        if (!plan.isTold() || n < 1 || n > FRAMES_A_CALL || net.frame() + n > LAST_FRAME) {
            return NONE;
        }
        drawn = seed;
        for (int i = 0; i < n; i++) {
            past.keepAct(net.words);
            drawWhatIsAhead();
            goOneFrame();
        }
        return net.frame();
    }

    public int status(int what) {
        return what >= 0 && what < refusals.length ? refusals[what] : NONE;
    }

    public int undo() {
        return past.takeBackAct(net.words) ? past.acts() : NONE;
    }

    public int log(int i, int what) {
        return past.tellLog(i, what);
    }

    public int offer(int pair, int node, int slot, int i) {
        if (!plan.hasPair(pair) || slot < 0 || slot >= plan.slots() || i < NONE) {
            return NONE;
        }
        if (node != plan.itemOf(pair, Plan.SENDER) && node != plan.itemOf(pair, Plan.RECEIVER)) {
            return NONE;
        }
        int found = dealings.gatherOffers(pair, net.takenAt(node), slot, MOST_SLOTS);
        return i == NONE ? found : dealings.offerAt(i);
    }

    public int comes(int pair, int n, int what) {
        if (!plan.hasPair(pair) || n < 0 || n > 60 || what < 0 || what > 2) {
            return NONE;
        }
        return outlook.afterFrames(pair, n, what);
    }

    public int agree(int pair) {
        if (!plan.hasPair(pair)) {
            return NONE;
        }
        return net.links[pair].agrees() ? 1 : 0;
    }

    public int healed() {
        return plan.isTold() ? outlook.framesTillAgreed() : NONE;
    }

    public int steady() {
        return plan.isTold() ? outlook.framesTillSteady() : NONE;
    }

    public int harm(int n, int what) {
        if (!plan.isTold() || n < 1 || n > 6 || what < 0 || what > 1) {
            return NONE;
        }
        int worst = NONE;
        int mostAtOdds = NONE;
        for (int k = 0; k < n; k++) {
            for (int p = 0; p < plan.pairs(); p++) {
                int atOdds = outlook.framesAtOdds(k, p);
                if (atOdds > mostAtOdds) {
                    mostAtOdds = atOdds;
                    worst = 10 * k + p;
                }
            }
        }
        return what == 0 ? worst : mostAtOdds;
    }

    public int odds(int n, int chance) {
        if (!plan.isTold() || n < 0 || n > 6 || chance < 0 || chance > 100) {
            return NONE;
        }
        long parts = 0;
        for (int losses = 0; losses < 1 << n; losses++) {
            parts += outlook.partsOf(losses, n, chance);
        }
        return (int) parts;
    }

    public int shares(int pair, int c) {
        if (!plan.hasPair(pair) || c < 0 || c > 999) {
            return NONE;
        }
        int all = 0;
        for (int p = 0; p < plan.pairs(); p++) {
            all += net.links[p].sender.gotInAll();
        }
        return all > 0 ? c * net.links[pair].sender.gotInAll() / all : 0;
    }

    public int node(int node, int what) {
        if (!plan.isTold() || node < 0 || node >= MOST_NODES) {
            return NONE;
        }
        if (what == 0) {
            return net.takenAt(node);
        }
        return what == 1 ? net.doubledAt(node) : NONE;
    }

    public int most(int what) {
        if (!plan.isTold() || what < 0 || what > 9) {
            return HIDDEN;
        }
        switch (what) {
            case 5:
                return net.greatest(Link.TELL_CELLS);
            case 6:
                return net.greatest(Link.TELL_QUEUE);
            case 7:
                return net.greatest(Link.TELL_LOAD);
            case 8:
                return net.jammedBits();
            case 9:
                return net.firstBadCell();
            default:
                return net.pairBits(what);
        }
    }

    public int image() {
        if (!plan.isTold()) {
            return NONE;
        }
        past.keepImage(net.words);
        return net.frame();
    }

    public int back() {
        return past.takeImage(net.words) ? net.frame() : NONE;
    }

    public int count(int what) {
        switch (what) {
            case 0:
                return plan.pairs();
            case 1:
                return plan.hopCount();
            case 2:
                return tape.size();
            case 3:
                return net.frame();
            case 4:
                return lossChance;
            case 5:
                return past.logLength();
            case 6:
                return past.acts();
            default:
                return HIDDEN;
        }
    }

    private int refuse(int why) {
        if (why >= 0 && why < refusals.length) {
            refusals[why]++;
        }
        return NONE;
    }

    private static boolean isDealing(int kind, int n) {
        switch (kind) {
            case ADD:
            case DELETE:
                return n >= 1 && n <= 3;
            case MOVE:
                return n >= 0 && n < Side.ROOM;
            case CLEAR:
                return n == 0;
            default:
                return false;
        }
    }

    private void goOneFrame() {
        course.passFrame();
        past.addToLog(net.lettersUnderWay(), net.cellsOfBoth(), course.cameInAll());
    }

    private void drawWhatIsAhead() {
        if (drawBelow(10) < lossChance) {
            int pair = drawBelow(plan.pairs());
            if (plan.hasPair(pair)) {
                net.links[pair].mail.drop();
            }
        }
        if (drawBelow(20) < 1) {
            net.turnJam(drawBelow(MOST_CHANNELS));
        }
    }

    private int drawBelow(int j) {
        drawn = drawn * 6364136223846793005L + 1442695040888963407L;
        return j > 0 ? (int) ((drawn >>> 33) % j) : 0;
    }

    /** The bytes that came and are not yet used as a TEXT. */
    private static final class Tape {
        private static final int ROOM = 240;

        private final int[] signs = new int[ROOM];
        private int length;

        static int signsIn(int word) {
            int found = 0;
            for (int shift = 24; shift >= 0; shift -= 8) {
                if ((word >>> shift & 255) != 0) {
                    found++;
                }
            }
            return found;
        }

        int size() {
            return length;
        }

        boolean hasRoom(int more) {
            return length + more <= ROOM;
        }

        void append(int word) {
            for (int shift = 24; shift >= 0; shift -= 8) {
                int sign = word >>> shift & 255;
                if (sign != 0 && length < ROOM) {
                    signs[length] = sign;
                    length++;
                }
            }
        }

        boolean cutTo(int n) {
            if (n < 0 || n > length) {
                return false;
            }
            length = n;
            return true;
        }

        /** NONE behind the last sign, so that an early end looks like a wrong sign there. */
        int signAt(int i) {
            return i >= 0 && i < length ? signs[i] : NONE;
        }
    }

    /** Reads the TAPE as a MESH or as HOPS into drafts, which count only if there is no FAULT. */
    private static final class Reader {
        private static final String RULE_LETTERS = "wctmu";
        private static final int[] RULE_LEAST = {4, 1, 2, 2, 0};
        private static final int[] RULE_MOST = {16, 4, 9, 9, 1};
        private static final int[] RULE_USUAL = {10, 2, 3, 4, 1};
        private static final String PAIR_LETTERS = "abkl";
        private static final int[] PAIR_LEAST = {0, 0, 2, 0};
        private static final int[] PAIR_MOST = {5, 5, 3, 9};
        private static final int[] PAIR_USUAL = {0, 1, 2, 1};

        private final Tape tape;
        private final int[] rules = new int[Plan.RULES];
        private final int[] items = new int[MOST_PAIRS * Plan.ITEMS];
        private final int[] hops = new int[MOST_HOPS];
        private int pairs;
        private int hopCount;
        private boolean rulesTold;
        private int at;
        private int number;

        Reader(Tape tape) {
            this.tape = tape;
        }

        int meshFault() {
            at = 0;
            pairs = 0;
            rulesTold = false;
            System.arraycopy(RULE_USUAL, 0, rules, 0, Plan.RULES);
            for (int clauses = 0; clauses <= Tape.ROOM; clauses++) {
                int wrong = readClause();
                if (wrong != NONE) {
                    return wrong;
                }
                if (at >= tape.size()) {
                    break;
                }
                at++;
            }
            return isWhole() ? NONE : tape.size();
        }

        int hopsFault() {
            hopCount = 0;
            for (int i = 0; i < tape.size(); i++) {
                int sign = tape.signAt(i);
                if (sign == ' ') {
                    continue;
                }
                if (!isDigit(sign) || hopCount >= MOST_HOPS) {
                    return i;
                }
                hops[hopCount] = sign - '0';
                hopCount++;
            }
            return hopCount > 0 ? NONE : tape.size();
        }

        /** Stands at the ; behind the clause or at the end of the TAPE, if nothing was wrong. */
        private int readClause() {
            skipBlanks();
            int sign = tape.signAt(at);
            if (sign == 's' && !rulesTold) {
                rulesTold = true;
                at++;
                return readItems(RULE_LETTERS, RULE_LEAST, RULE_MOST, rules, 0);
            }
            if (sign == 'p' && pairs < MOST_PAIRS) {
                int first = pairs * Plan.ITEMS;
                System.arraycopy(PAIR_USUAL, 0, items, first, Plan.ITEMS);
                pairs++;
                at++;
                return readItems(PAIR_LETTERS, PAIR_LEAST, PAIR_MOST, items, first);
            }
            return at;
        }

        /** Letters stay where they are until known to be new: a second one is itself the FAULT. */
        private int readItems(String letters, int[] least, int[] most, int[] into, int first) {
            int seen = 0;
            for (int i = 0; i <= letters.length(); i++) {
                skipBlanks();
                int sign = tape.signAt(at);
                if (sign == NONE || sign == ';') {
                    return NONE;
                }
                int which = letters.indexOf((char) sign);
                if (which < 0 || which >= least.length || which >= most.length || (seen >> which & 1) == 1) {
                    return at;
                }
                seen |= 1 << which;
                int wrong = readNumber(least[which], most[which]);
                if (wrong != NONE) {
                    return wrong;
                }
                if (first + which < into.length) {
                    into[first + which] = number;
                }
            }
            return at;
        }

        /** A third digit is the FAULT before the bounds are looked at. */
        private int readNumber(int least, int most) {
            at++;
            skipBlanks();
            number = 0;
            for (int digits = 0; digits < 3; digits++) {
                int sign = tape.signAt(at);
                if (!isDigit(sign)) {
                    if (digits == 0) {
                        return at;
                    }
                    break;
                }
                if (digits == 2) {
                    return at;
                }
                number = number * 10 + sign - '0';
                at++;
            }
            return number < least || number > most ? at - 1 : NONE;
        }

        private void skipBlanks() {
            for (int i = 0; i < Tape.ROOM && tape.signAt(at) == ' '; i++) {
                at++;
            }
        }

        private static boolean isDigit(int sign) {
            return sign >= '0' && sign <= '9';
        }

        private boolean isWhole() {
            for (int p = 0; p < pairs; p++) {
                int from = items[p * Plan.ITEMS + Plan.SENDER];
                int to = items[p * Plan.ITEMS + Plan.RECEIVER];
                if (from == to) {
                    return false;
                }
                for (int q = 0; q < p; q++) {
                    if (items[q * Plan.ITEMS + Plan.SENDER] == from
                            && items[q * Plan.ITEMS + Plan.RECEIVER] == to) {
                        return false;
                    }
                }
            }
            return pairs > 0;
        }
    }

    /** What the MESH and the HOPS told: nothing that FRAMES or ACTS change. */
    private static final class Plan {
        private static final int RULES = 5;
        private static final int SLOTS = 0;
        private static final int OFFSETS = 1;
        private static final int TIMEOUT = 2;
        private static final int WINDOW = 3;
        private static final int AUTO = 4;

        private static final int ITEMS = 4;
        private static final int SENDER = 0;
        private static final int RECEIVER = 1;
        private static final int STEPS = 2;
        private static final int LOAD = 3;

        private final int[] rules = new int[RULES];
        private final int[] items = new int[MOST_PAIRS * ITEMS];
        private final int[] hops = new int[MOST_HOPS];
        private int pairs;
        private int hopCount;

        void takeMesh(Reader reader) {
            System.arraycopy(reader.rules, 0, rules, 0, RULES);
            System.arraycopy(reader.items, 0, items, 0, items.length);
            pairs = reader.pairs;
        }

        void takeHops(Reader reader) {
            System.arraycopy(reader.hops, 0, hops, 0, MOST_HOPS);
            hopCount = reader.hopCount;
        }

        boolean isTold() {
            return pairs > 0;
        }

        int pairs() {
            return pairs;
        }

        int hopCount() {
            return hopCount;
        }

        boolean hasPair(int pair) {
            return pair >= 0 && pair < pairs;
        }

        int ruleOf(int what) {
            return what >= 0 && what < RULES ? rules[what] : NONE;
        }

        int itemOf(int pair, int what) {
            return pair >= 0 && pair < pairs && what >= 0 && what < ITEMS ? items[pair * ITEMS + what] : NONE;
        }

        int slots() {
            return rules[SLOTS];
        }

        int timeout() {
            return rules[TIMEOUT];
        }

        boolean hasCell(int cell) {
            return pairs > 0 && cell >= 0 && cell / 10 < rules[SLOTS] && cell % 10 < rules[OFFSETS];
        }

        boolean endsWindow(int frame) {
            return rules[WINDOW] > 0 && (frame + 1) % rules[WINDOW] == 0;
        }

        int cellInSlot(int slot, int pair) {
            int offset = rules[OFFSETS] > 0 ? (slot + pair) % rules[OFFSETS] : 0;
            return slot * 10 + offset;
        }

        int channelOf(int frame, int cell) {
            int step = frame * rules[SLOTS] + cell / 10 + cell % 10;
            if (step < 0) {
                return NONE;
            }
            if (hopCount > 0) {
                return hops[step % hopCount];
            }
            return rules[OFFSETS] > 0 ? step % rules[OFFSETS] : NONE;
        }
    }

    /**
     * One side of a PAIR: SEQ, what it WAITS for, what it has PROMISED, its TABLE.
     * A view on a Net's words, so that a whole state is kept or laid back by one copy.
     */
    private static final class Side {
        private static final int ROOM = 6;
        private static final int MOST_PROMISES = 4;
        private static final int MOST_TIMES = 999;
        private static final int TRIED_ENOUGH = 4;

        private static final int SEQ = 0;
        private static final int WAITS = 1;
        private static final int FROM = 2;
        private static final int AWAITED = 3;
        private static final int PROMISES = 4;
        private static final int PROMISED = 5;
        private static final int CELLS = PROMISED + MOST_PROMISES;
        private static final int NUMBERS = CELLS + 1;
        private static final int SENT = NUMBERS + ROOM;
        private static final int GOT = SENT + ROOM;
        private static final int SIZE = GOT + ROOM;

        private final int[] words;
        private final int at;

        Side(int[] words, int at) {
            this.words = words;
            this.at = at;
        }

        int seq() {
            return words[at + SEQ];
        }

        void raiseSeq() {
            int seq = words[at + SEQ];
            words[at + SEQ] = seq >= 255 ? 1 : seq + 1;
        }

        boolean isWaiting() {
            return words[at + WAITS] == 1;
        }

        boolean awaits(int kind) {
            return isWaiting() && words[at + AWAITED] == kind;
        }

        boolean hasWaited(int frame, int timeout) {
            return isWaiting() && frame - words[at + FROM] >= timeout;
        }

        void startWaiting(int frame, int kind) {
            words[at + WAITS] = 1;
            words[at + FROM] = frame;
            words[at + AWAITED] = kind;
        }

        void stopWaiting() {
            words[at + WAITS] = 0;
            words[at + PROMISES] = 0;
        }

        void promise(int cell) {
            int promises = words[at + PROMISES];
            if (promises >= 0 && promises < MOST_PROMISES) {
                words[at + PROMISED + promises] = cell;
                words[at + PROMISES] = promises + 1;
            }
        }

        int size() {
            return words[at + CELLS];
        }

        int numberAt(int i) {
            return i >= 0 && i < size() ? words[at + NUMBERS + i] : NONE;
        }

        int tellCell(int i, int what) {
            if (i < 0 || i >= size() || what < 0 || what > 2) {
                return NONE;
            }
            return words[at + NUMBERS + what * ROOM + i];
        }

        int tellWait(int what) {
            switch (what) {
                case 0:
                    return words[at + WAITS];
                case 1:
                    return isWaiting() ? words[at + FROM] : NONE;
                case 2:
                    return words[at + PROMISES];
                default:
                    return NONE;
            }
        }

        int placeOf(int cell) {
            int size = words[at + CELLS];
            for (int i = 0; i < size; i++) {
                if (words[at + NUMBERS + i] == cell) {
                    return i;
                }
            }
            return NONE;
        }

        boolean hasRoom() {
            return size() < ROOM;
        }

        int cellsAlsoIn(Side other) {
            int found = 0;
            int size = words[at + CELLS];
            for (int i = 0; i < size; i++) {
                if (other.placeOf(words[at + NUMBERS + i]) != NONE) {
                    found++;
                }
            }
            return found;
        }

        /** Both TABLES rise, so they are compared place by place. */
        boolean hasSameCells(Side other) {
            int size = words[at + CELLS];
            if (size != other.words[other.at + CELLS]) {
                return false;
            }
            for (int i = 0; i < size; i++) {
                if (words[at + NUMBERS + i] != other.words[other.at + NUMBERS + i]) {
                    return false;
                }
            }
            return true;
        }

        /** A CELL without room, or one that is there, does not come. */
        void put(int cell) {
            int size = size();
            if (size < 0 || size >= ROOM || placeOf(cell) != NONE) {
                return;
            }
            int place = size;
            for (; place > 0 && words[at + NUMBERS + place - 1] > cell; place--) {
                shift(place - 1, place);
            }
            words[at + NUMBERS + place] = cell;
            words[at + SENT + place] = 0;
            words[at + GOT + place] = 0;
            words[at + CELLS] = size + 1;
        }

        boolean takeOut(int cell) {
            int place = placeOf(cell);
            if (place == NONE) {
                return false;
            }
            int last = size() - 1;
            for (int i = place; i < last; i++) {
                shift(i + 1, i);
            }
            words[at + CELLS] = last;
            return true;
        }

        private void shift(int from, int to) {
            words[at + NUMBERS + to] = words[at + NUMBERS + from];
            words[at + SENT + to] = words[at + SENT + from];
            words[at + GOT + to] = words[at + GOT + from];
        }

        void clearTable() {
            words[at + CELLS] = 0;
            words[at + SEQ] = 0;
        }

        void countSent(int i) {
            if (i >= 0 && i < size() && words[at + SENT + i] < MOST_TIMES) {
                words[at + SENT + i]++;
            }
        }

        void countGot(int i) {
            if (i >= 0 && i < size() && words[at + GOT + i] < MOST_TIMES) {
                words[at + GOT + i]++;
            }
        }

        int gotInAll() {
            int size = size();
            int all = 0;
            for (int i = 0; i < size; i++) {
                all += words[at + GOT + i];
            }
            return all;
        }

        int takenSlots() {
            int bits = 0;
            int size = words[at + CELLS];
            for (int i = 0; i < size; i++) {
                bits |= 1 << words[at + NUMBERS + i] / 10;
            }
            int promises = words[at + PROMISES];
            for (int i = 0; i < promises; i++) {
                bits |= 1 << words[at + PROMISED + i] / 10;
            }
            return bits;
        }

        /** The place of the BAD CELL: if any is BAD, the one with least GOT by SENT is. */
        int badPlace() {
            int best = NONE;
            int worst = NONE;
            int size = size();
            for (int i = 0; i < size; i++) {
                if (words[at + SENT + i] >= TRIED_ENOUGH) {
                    best = best == NONE || comesLess(best, i) ? i : best;
                    worst = worst == NONE || comesLess(i, worst) ? i : worst;
                }
            }
            if (worst == NONE) {
                return NONE;
            }
            int twice = 2 * words[at + GOT + worst] * words[at + SENT + best];
            return twice < words[at + GOT + best] * words[at + SENT + worst] ? worst : NONE;
        }

        /** Products instead of quotients: nothing is cut. */
        private boolean comesLess(int i, int j) {
            return words[at + GOT + i] * words[at + SENT + j] < words[at + GOT + j] * words[at + SENT + i];
        }
    }

    /** The LETTER of a PAIR; a view on a Net's words. */
    private static final class Letter {
        private static final int ROOM = 4;

        private static final int UNDER_WAY = 0;
        private static final int SORT = 1;
        private static final int KIND = 2;
        private static final int RESULT = 3;
        private static final int SEQ = 4;
        private static final int AMOUNT = 5;
        private static final int CELLS = 6;
        private static final int NUMBERS = 7;
        private static final int SIZE = NUMBERS + ROOM;

        private final int[] words;
        private final int at;

        Letter(int[] words, int at) {
            this.words = words;
            this.at = at;
        }

        boolean isUnderWay() {
            return words[at + UNDER_WAY] == 1;
        }

        /** What it said can still be read. */
        void drop() {
            words[at + UNDER_WAY] = 0;
        }

        int sort() {
            return words[at + SORT];
        }

        int kind() {
            return words[at + KIND];
        }

        int result() {
            return words[at + RESULT];
        }

        int seq() {
            return words[at + SEQ];
        }

        int amount() {
            return words[at + AMOUNT];
        }

        void send(int sort, int kind, int result, int seq, int amount) {
            words[at + UNDER_WAY] = 1;
            words[at + SORT] = sort;
            words[at + KIND] = kind;
            words[at + RESULT] = result;
            words[at + SEQ] = seq;
            words[at + AMOUNT] = amount;
            words[at + CELLS] = 0;
        }

        void enclose(int cell) {
            int cells = words[at + CELLS];
            if (cells >= 0 && cells < ROOM) {
                words[at + NUMBERS + cells] = cell;
                words[at + CELLS] = cells + 1;
            }
        }

        int cells() {
            return words[at + CELLS];
        }

        int numberAt(int i) {
            return i >= 0 && i < words[at + CELLS] ? words[at + NUMBERS + i] : NONE;
        }

        int tell(int what) {
            if (!isUnderWay() || what < 0) {
                return NONE;
            }
            return what <= 5 ? words[at + SORT + what] : numberAt(what - 6);
        }
    }

    /** A PAIR: both its sides, its LETTER, what QUEUES; a view on a Net's words. */
    private static final class Link {
        private static final int TELL_LOAD = 3;
        private static final int TELL_QUEUE = 4;
        private static final int TELL_CELLS = 9;
        private static final int MOST_QUEUE = 99;

        private static final int LOAD = 0;
        private static final int QUEUE = 1;
        private static final int USED = 2;
        private static final int PASSED = 3;
        private static final int OWN = 4;
        private static final int SIZE = OWN + 2 * Side.SIZE + Letter.SIZE;

        private final int number;
        private final int[] words;
        private final int at;
        private final Side sender;
        private final Side receiver;
        private final Letter mail;

        Link(int number, int[] words, int at) {
            this.number = number;
            this.words = words;
            this.at = at;
            this.sender = new Side(words, at + OWN);
            this.receiver = new Side(words, at + OWN + Side.SIZE);
            this.mail = new Letter(words, at + OWN + 2 * Side.SIZE);
        }

        int tell(int what) {
            switch (what) {
                case TELL_LOAD:
                    return words[at + LOAD];
                case TELL_QUEUE:
                    return words[at + QUEUE];
                case 5:
                    return words[at + USED];
                case 6:
                    return words[at + PASSED];
                case 7:
                    return sender.seq();
                case 8:
                    return receiver.seq();
                case TELL_CELLS:
                    return sender.size();
                case 10:
                    return receiver.size();
                default:
                    return NONE;
            }
        }

        void setLoad(int v) {
            words[at + LOAD] = v;
        }

        int queue() {
            return words[at + QUEUE];
        }

        void growQueue() {
            words[at + QUEUE] = Math.min(MOST_QUEUE, words[at + QUEUE] + words[at + LOAD]);
        }

        void noteSending(int sends, int got) {
            words[at + QUEUE] -= got;
            words[at + USED] += sends;
            words[at + PASSED] += sender.size();
        }

        boolean wantsMore() {
            return 4 * words[at + USED] > 3 * words[at + PASSED] || sender.size() == 0 && words[at + QUEUE] > 0;
        }

        boolean wantsLess() {
            return 4 * words[at + USED] < words[at + PASSED] && sender.size() >= 2;
        }

        void endWindow() {
            words[at + USED] = 0;
            words[at + PASSED] = 0;
        }

        boolean isIdle() {
            return !sender.isWaiting() && !mail.isUnderWay();
        }

        boolean agrees() {
            return sender.seq() == receiver.seq() && sender.hasSameCells(receiver);
        }
    }

    /** All that changes: the FRAME, AUTO, JAMMED and each PAIR, in one row of words. */
    private static final class Net {
        private static final int FRAME = 0;
        private static final int AUTO = 1;
        private static final int JAMMED = 2;
        private static final int OWN = 3;
        private static final int SIZE = OWN + MOST_PAIRS * Link.SIZE;

        private final Plan plan;
        private final int[] words = new int[SIZE];
        private final Link[] links = new Link[MOST_PAIRS];

        Net(Plan plan) {
            this.plan = plan;
            for (int p = 0; p < MOST_PAIRS; p++) {
                links[p] = new Link(p, words, OWN + p * Link.SIZE);
            }
        }

        void startAnew() {
            Arrays.fill(words, 0);
            words[AUTO] = plan.ruleOf(Plan.AUTO);
            for (int p = 0; p < plan.pairs(); p++) {
                links[p].setLoad(plan.itemOf(p, Plan.LOAD));
            }
        }

        int frame() {
            return words[FRAME];
        }

        void goToNextFrame() {
            words[FRAME]++;
        }

        int autoNow() {
            return words[AUTO];
        }

        void turnAuto() {
            words[AUTO] = 1 - words[AUTO];
        }

        void turnJam(int channel) {
            words[JAMMED] ^= 1 << channel;
        }

        boolean isJammed(int channel) {
            return (words[JAMMED] >> channel & 1) == 1;
        }

        int jammedBits() {
            return words[JAMMED];
        }

        void loseLetters() {
            for (int p = 0; p < plan.pairs(); p++) {
                links[p].mail.drop();
            }
        }

        boolean allAgree() {
            for (int p = 0; p < plan.pairs(); p++) {
                if (!links[p].agrees()) {
                    return false;
                }
            }
            return true;
        }

        int takenAt(int node) {
            int bits = 0;
            for (int p = 0; p < plan.pairs(); p++) {
                if (plan.itemOf(p, Plan.SENDER) == node) {
                    bits |= links[p].sender.takenSlots();
                }
                if (plan.itemOf(p, Plan.RECEIVER) == node) {
                    bits |= links[p].receiver.takenSlots();
                }
            }
            return bits;
        }

        int doubledAt(int node) {
            int once = 0;
            int twice = 0;
            for (int p = 0; p < plan.pairs(); p++) {
                Side side = sideOf(p, node);
                int size = side == null ? 0 : side.size();
                for (int i = 0; i < size; i++) {
                    int bit = 1 << side.numberAt(i) / 10;
                    twice |= once & bit;
                    once |= bit;
                }
            }
            return twice;
        }

        private Side sideOf(int pair, int node) {
            if (plan.itemOf(pair, Plan.SENDER) == node) {
                return links[pair].sender;
            }
            return plan.itemOf(pair, Plan.RECEIVER) == node ? links[pair].receiver : null;
        }

        int lettersUnderWay() {
            int found = 0;
            for (int p = 0; p < plan.pairs(); p++) {
                if (links[p].mail.isUnderWay()) {
                    found++;
                }
            }
            return found;
        }

        int cellsOfBoth() {
            int found = 0;
            for (int p = 0; p < plan.pairs(); p++) {
                found += links[p].sender.cellsAlsoIn(links[p].receiver);
            }
            return found;
        }

        /** The PAIR of which most is told, the lowest of several. */
        int greatest(int what) {
            int best = 0;
            for (int p = 1; p < plan.pairs(); p++) {
                if (links[p].tell(what) > links[best].tell(what)) {
                    best = p;
                }
            }
            return best;
        }

        int firstBadCell() {
            for (int p = 0; p < plan.pairs(); p++) {
                int place = links[p].sender.badPlace();
                if (place != NONE) {
                    return links[p].sender.numberAt(place);
                }
            }
            return NONE;
        }

        int pairBits(int what) {
            int bits = 0;
            for (int p = 0; p < plan.pairs(); p++) {
                if (isMarked(p, what)) {
                    bits |= 1 << p;
                }
            }
            return bits;
        }

        private boolean isMarked(int pair, int what) {
            switch (what) {
                case 0:
                    return collides(pair);
                case 1:
                    return links[pair].sender.isWaiting();
                case 2:
                    return links[pair].receiver.isWaiting();
                case 3:
                    return links[pair].mail.isUnderWay();
                default:
                    return !links[pair].agrees();
            }
        }

        private boolean collides(int pair) {
            Side sender = links[pair].sender;
            for (int p = 0; p < plan.pairs(); p++) {
                for (int i = 0; p != pair && i < sender.size(); i++) {
                    if (links[p].sender.placeOf(sender.numberAt(i)) != NONE) {
                        return true;
                    }
                }
            }
            return false;
        }
    }

    /** How DEALINGS are begun, LETTERS read and answered, and waiting ends. */
    private static final class Dealings {
        private final Net net;
        private final Plan plan;
        private final int[] offers = new int[MOST_SLOTS];
        private final int[] told = new int[Letter.ROOM];
        private int offerCount;
        private int toldCount;

        Dealings(Net net) {
            this.net = net;
            this.plan = net.plan;
        }

        /** OFFERS of a NODE whose TAKEN SLOTS are told; they stay until the next are gathered. */
        int gatherOffers(int pair, int taken, int from, int most) {
            int slots = plan.slots();
            offerCount = 0;
            for (int i = 0; i < slots && i < MOST_SLOTS && offerCount < most; i++) {
                int slot = from + i < slots ? from + i : from + i - slots;
                if ((taken >> slot & 1) == 0) {
                    offers[offerCount] = plan.cellInSlot(slot, pair);
                    offerCount++;
                }
            }
            return offerCount;
        }

        int offerAt(int i) {
            return i >= 0 && i < offerCount ? offers[i] : NONE;
        }

        boolean canBegin(Link link, int kind) {
            if (!link.isIdle()) {
                return false;
            }
            boolean hasFree = net.takenAt(senderOf(link)) != (1 << plan.slots()) - 1;
            switch (kind) {
                case ADD:
                    return hasFree || !isTwoSteps(link);
                case DELETE:
                    return link.sender.size() > 0;
                case MOVE:
                    return hasFree;
                default:
                    return true;
            }
        }

        /** Only what can be begun; for a MOVE n is the place of the CELL. Answers how many CELLS are told. */
        int begin(Link link, int kind, int n) {
            int amount = kind == ADD || kind == DELETE ? n : NONE;
            link.mail.send(REQUEST, kind, NONE, link.sender.seq(), amount);
            link.sender.startWaiting(net.frame(), kind);
            if (kind == ADD && isTwoSteps(link)) {
                promiseFreeSlots(link, 0, n + 1);
            } else if (kind == DELETE) {
                int size = link.sender.size();
                for (int i = Math.max(0, size - n); i < size; i++) {
                    link.mail.enclose(link.sender.numberAt(i));
                }
            } else if (kind == MOVE) {
                int cell = link.sender.numberAt(n);
                link.mail.enclose(cell);
                promiseFreeSlots(link, cell / 10 + 1, 2);
            }
            return link.mail.cells();
        }

        /** Takes the LETTER in hand, as its answer is written in its stead. */
        int open(Link link) {
            toldCount = Math.min(link.mail.cells(), Letter.ROOM);
            for (int i = 0; i < toldCount; i++) {
                told[i] = link.mail.numberAt(i);
            }
            link.mail.drop();
            return link.mail.sort();
        }

        void readRequest(Link link) {
            link.receiver.stopWaiting();
            int kind = link.mail.kind();
            if (kind == CLEAR) {
                link.receiver.clearTable();
                answer(link, OK);
            } else if (link.receiver.seq() != link.mail.seq()) {
                answer(link, ODD);
            } else if (kind == ADD && isTwoSteps(link)) {
                acceptCells(link);
            } else if (kind == ADD) {
                offerCells(link);
            } else if (kind == DELETE) {
                giveUpCells(link);
            } else {
                moveCell(link);
            }
        }

        void readAnswer(Link link) {
            Side sender = link.sender;
            int result = link.mail.result();
            sender.stopWaiting();
            if (result == ODD) {
                begin(link, CLEAR, 0);
            }
            if (result != OK) {
                return;
            }
            switch (link.mail.kind()) {
                case ADD:
                    if (!isTwoSteps(link)) {
                        confirmCells(link);
                        return;
                    }
                    putAllTold(sender);
                    break;
                case DELETE:
                    for (int i = 0; i < toldCount; i++) {
                        sender.takeOut(told[i]);
                    }
                    break;
                case MOVE:
                    if (toldCount > 1 && sender.takeOut(told[0])) {
                        sender.put(told[1]);
                    }
                    break;
                default:
                    sender.clearTable();
                    return;
            }
            sender.raiseSeq();
        }

        void readConfirm(Link link) {
            Side receiver = link.receiver;
            if (!receiver.isWaiting()) {
                return;
            }
            putAllTold(receiver);
            if (toldCount > 0) {
                receiver.raiseSeq();
            }
            receiver.stopWaiting();
        }

        void runOut(Link link) {
            if (link.mail.isUnderWay()) {
                return;
            }
            if (link.sender.hasWaited(net.frame(), plan.timeout())) {
                if (link.sender.awaits(CLEAR)) {
                    link.sender.clearTable();
                }
                link.sender.stopWaiting();
            }
            if (link.receiver.hasWaited(net.frame(), plan.timeout())) {
                link.receiver.stopWaiting();
            }
        }

        private boolean isTwoSteps(Link link) {
            return plan.itemOf(link.number, Plan.STEPS) == 2;
        }

        private int senderOf(Link link) {
            return plan.itemOf(link.number, Plan.SENDER);
        }

        private int receiverOf(Link link) {
            return plan.itemOf(link.number, Plan.RECEIVER);
        }

        private void promiseFreeSlots(Link link, int from, int most) {
            gatherOffers(link.number, net.takenAt(senderOf(link)), from, most);
            promiseOffers(link.sender, link.mail);
        }

        private void answer(Link link, int result) {
            link.mail.send(ANSWER, link.mail.kind(), result, NONE, link.mail.amount());
        }

        private void promiseOffers(Side side, Letter mail) {
            for (int i = 0; i < offerCount; i++) {
                side.promise(offers[i]);
                mail.enclose(offers[i]);
            }
        }

        private void putAllTold(Side side) {
            for (int i = 0; i < toldCount; i++) {
                side.put(told[i]);
            }
        }

        /** Of the CELLS told the first ones with FREE SLOTS come into the TABLE and the LETTER. */
        private void putFreeTold(Side side, Letter mail, int taken) {
            int left = mail.amount();
            for (int i = 0; i < toldCount && left > 0 && side.hasRoom(); i++) {
                if ((taken >> told[i] / 10 & 1) == 0) {
                    side.put(told[i]);
                    mail.enclose(told[i]);
                    left--;
                }
            }
        }

        private void acceptCells(Link link) {
            int taken = net.takenAt(receiverOf(link));
            answer(link, OK);
            putFreeTold(link.receiver, link.mail, taken);
            endAnswer(link);
        }

        private void offerCells(Link link) {
            int amount = link.mail.amount();
            int found = gatherOffers(link.number, net.takenAt(receiverOf(link)), 0, amount + 1);
            if (found == 0) {
                answer(link, NO);
                return;
            }
            answer(link, OK);
            promiseOffers(link.receiver, link.mail);
            link.receiver.startWaiting(net.frame(), ADD);
        }

        private void giveUpCells(Link link) {
            answer(link, OK);
            for (int i = 0; i < toldCount; i++) {
                if (link.receiver.takeOut(told[i])) {
                    link.mail.enclose(told[i]);
                }
            }
            endAnswer(link);
        }

        private void moveCell(Link link) {
            int taken = net.takenAt(receiverOf(link));
            answer(link, OK);
            if (toldCount > 0 && link.receiver.placeOf(told[0]) != NONE) {
                for (int i = 1; i < toldCount; i++) {
                    if ((taken >> told[i] / 10 & 1) == 0) {
                        link.receiver.takeOut(told[0]);
                        link.receiver.put(told[i]);
                        link.mail.enclose(told[0]);
                        link.mail.enclose(told[i]);
                        break;
                    }
                }
            }
            endAnswer(link);
        }

        /** An OK without CELLS is a NO. */
        private void endAnswer(Link link) {
            if (link.mail.cells() == 0) {
                answer(link, NO);
            } else {
                link.receiver.raiseSeq();
            }
        }

        private void confirmCells(Link link) {
            int taken = net.takenAt(senderOf(link));
            link.mail.send(CONFIRM, ADD, NONE, NONE, link.mail.amount());
            putFreeTold(link.sender, link.mail, taken);
            if (link.mail.cells() > 0) {
                link.sender.raiseSeq();
            }
        }
    }

    /** Lets a Net go FRAME by FRAME. */
    private static final class Course {
        /** CELL numbers are below this. */
        private static final int NUMBERS = 10 * MOST_SLOTS;

        private final Net net;
        private final Plan plan;
        private final Dealings dealings;
        private final int[] sendersIn = new int[NUMBERS];
        private final int[] sends = new int[MOST_PAIRS];
        private final int[] came = new int[MOST_PAIRS];

        Course(Net net, Dealings dealings) {
            this.net = net;
            this.plan = net.plan;
            this.dealings = dealings;
        }

        void passFrame() {
            int pairs = plan.pairs();
            for (int p = 0; p < pairs; p++) {
                Link link = net.links[p];
                int sort = link.mail.isUnderWay() ? dealings.open(link) : NONE;
                if (sort == REQUEST) {
                    dealings.readRequest(link);
                } else if (sort == ANSWER) {
                    dealings.readAnswer(link);
                } else if (sort == CONFIRM) {
                    dealings.readConfirm(link);
                }
            }
            for (int p = 0; p < pairs; p++) {
                dealings.runOut(net.links[p]);
            }
            sendAll();
            if (plan.endsWindow(net.frame())) {
                for (int p = 0; p < pairs; p++) {
                    followLoad(net.links[p]);
                }
            }
            net.goToNextFrame();
        }

        int cameOf(int pair) {
            return pair >= 0 && pair < MOST_PAIRS ? came[pair] : 0;
        }

        int cameInAll() {
            int all = 0;
            for (int p = 0; p < plan.pairs(); p++) {
                all += came[p];
            }
            return all;
        }

        /** First all line up: who sends in which CELL must be known before anything is GOT. */
        private void sendAll() {
            int pairs = plan.pairs();
            for (int p = 0; p < pairs; p++) {
                Link link = net.links[p];
                link.growQueue();
                sends[p] = Math.min(link.queue(), link.sender.size());
                markCells(link.sender, sends[p], 1);
            }
            for (int p = 0; p < pairs; p++) {
                came[p] = sendOf(net.links[p], sends[p]);
            }
            for (int p = 0; p < pairs; p++) {
                markCells(net.links[p].sender, sends[p], -1);
            }
        }

        private void markCells(Side side, int sends, int more) {
            for (int i = 0; i < sends; i++) {
                int cell = side.numberAt(i);
                if (cell >= 0 && cell < NUMBERS) {
                    sendersIn[cell] += more;
                }
            }
        }

        private int sendOf(Link link, int sends) {
            int got = 0;
            for (int i = 0; i < sends; i++) {
                link.sender.countSent(i);
                if (comesOver(link, link.sender.numberAt(i))) {
                    link.sender.countGot(i);
                    got++;
                }
            }
            link.noteSending(sends, got);
            return got;
        }

        private boolean comesOver(Link link, int cell) {
            return cell >= 0 && cell < NUMBERS && sendersIn[cell] == 1
                    && link.receiver.placeOf(cell) != NONE
                    && !net.isJammed(plan.channelOf(net.frame(), cell));
        }

        private void followLoad(Link link) {
            int bad = link.sender.badPlace();
            int kind = link.wantsMore() ? ADD : link.wantsLess() ? DELETE : bad != NONE ? MOVE : NONE;
            if (net.autoNow() == 1 && kind != NONE && dealings.canBegin(link, kind)) {
                dealings.begin(link, kind, kind == MOVE ? bad : 1);
            }
            link.endWindow();
        }
    }

    /** The LOG, the states ahead of the latest ACTS, and the IMAGE. */
    private static final class Past {
        private static final int MOST_ACTS = 40;
        private static final int LOG_SHOWN = 60;
        /** More than are shown: those that come to light again when ACTS are UNDONE. */
        private static final int LOG_KEPT = LOG_SHOWN + MOST_ACTS;
        private static final int LOG_WORDS = 3;

        private final int[] log = new int[LOG_KEPT * LOG_WORDS];
        private int logged;
        private final int[][] states = new int[MOST_ACTS][];
        private final int[] loggedThen = new int[MOST_ACTS];
        private int nextAct;
        private int acts;
        private final int[] imageState = new int[Net.SIZE];
        private final int[] imageLog = new int[LOG_SHOWN * LOG_WORDS];
        private int imageLogged;
        private boolean hasImage;

        void startAnew() {
            logged = 0;
            acts = 0;
            hasImage = false;
        }

        int acts() {
            return acts;
        }

        int logLength() {
            return Math.min(logged, LOG_SHOWN);
        }

        void addToLog(int letters, int cells, int got) {
            int at = logged % LOG_KEPT * LOG_WORDS;
            log[at] = letters;
            log[at + 1] = cells;
            log[at + 2] = got;
            logged++;
        }

        int tellLog(int i, int what) {
            if (i < 0 || i >= logLength() || what < 0 || what >= LOG_WORDS) {
                return NONE;
            }
            return log[(logged - 1 - i) % LOG_KEPT * LOG_WORDS + what];
        }

        /** Rows are made when first needed: many objects never come to 40 ACTS. */
        void keepAct(int[] words) {
            if (states[nextAct] == null) {
                states[nextAct] = new int[Net.SIZE];
            }
            System.arraycopy(words, 0, states[nextAct], 0, Net.SIZE);
            loggedThen[nextAct] = logged;
            nextAct = (nextAct + 1) % MOST_ACTS;
            acts = Math.min(acts + 1, MOST_ACTS);
        }

        boolean takeBackAct(int[] words) {
            int latest = (nextAct + MOST_ACTS - 1) % MOST_ACTS;
            if (acts == 0 || states[latest] == null) {
                return false;
            }
            System.arraycopy(states[latest], 0, words, 0, Net.SIZE);
            logged = loggedThen[latest];
            nextAct = latest;
            acts--;
            return true;
        }

        void keepImage(int[] words) {
            System.arraycopy(words, 0, imageState, 0, Net.SIZE);
            imageLogged = logLength();
            for (int i = 0; i < imageLogged; i++) {
                for (int what = 0; what < LOG_WORDS; what++) {
                    imageLog[i * LOG_WORDS + what] = tellLog(imageLogged - 1 - i, what);
                }
            }
            hasImage = true;
        }

        boolean takeImage(int[] words) {
            if (!hasImage) {
                return false;
            }
            System.arraycopy(imageState, 0, words, 0, Net.SIZE);
            System.arraycopy(imageLog, 0, log, 0, imageLogged * LOG_WORDS);
            logged = imageLogged;
            acts = 0;
            return true;
        }
    }

    /** What would come: a Net apart goes on from the state of the living one. */
    private static final class Outlook {
        private static final int HEAL_FRAMES = 99;
        private static final int STEADY_FRAMES = 40;
        private static final int HARM_FRAMES = 30;
        private static final long ALL_PARTS = 1000000000L;

        private final Net living;
        private final Net apart;
        private final Course course;
        private final int[] sizes = new int[MOST_PAIRS];

        Outlook(Net living) {
            this.living = living;
            apart = new Net(living.plan);
            course = new Course(apart, new Dealings(apart));
        }

        int afterFrames(int pair, int n, int what) {
            startFrom(living.words);
            int got = 0;
            for (int i = 0; i < n; i++) {
                course.passFrame();
                got += course.cameOf(pair);
            }
            if (what == 0) {
                return got;
            }
            return apart.links[pair].tell(what == 1 ? Link.TELL_QUEUE : Link.TELL_CELLS);
        }

        int framesTillAgreed() {
            startFrom(living.words);
            for (int i = 0; i < HEAL_FRAMES; i++) {
                if (apart.allAgree()) {
                    return i;
                }
                course.passFrame();
            }
            return apart.allAgree() ? HEAL_FRAMES : NONE;
        }

        int framesTillSteady() {
            startFrom(living.words);
            notesChange();
            int changed = 0;
            for (int i = 1; i <= 2 * STEADY_FRAMES && changed <= STEADY_FRAMES; i++) {
                course.passFrame();
                if (notesChange()) {
                    changed = i;
                }
                if (i - changed == STEADY_FRAMES) {
                    return changed;
                }
            }
            return NONE;
        }

        /** How many of the next FRAMES end at odds if that LETTER is LOST ahead of the k-th; NONE: there is none. */
        int framesAtOdds(int k, int pair) {
            startFrom(living.words);
            int found = 0;
            for (int i = 0; i < HARM_FRAMES; i++) {
                if (i == k) {
                    if (!apart.links[pair].mail.isUnderWay()) {
                        return NONE;
                    }
                    apart.links[pair].mail.drop();
                }
                course.passFrame();
                found += apart.allAgree() ? 0 : 1;
            }
            return found;
        }

        /** The parts of one row of losses, a bit a FRAME; 0 if not all AGREE behind it. */
        long partsOf(int losses, int n, int chance) {
            startFrom(living.words);
            long parts = ALL_PARTS;
            for (int k = 0; k < n && parts > 0; k++) {
                long lost = parts * chance / 100;
                if ((losses >> k & 1) == 1) {
                    parts = lost;
                    apart.loseLetters();
                } else {
                    parts -= lost;
                }
                course.passFrame();
            }
            return apart.allAgree() ? parts : 0;
        }

        private boolean notesChange() {
            boolean changed = false;
            for (int p = 0; p < living.plan.pairs(); p++) {
                int size = apart.links[p].sender.size();
                changed = changed || size != sizes[p];
                sizes[p] = size;
            }
            return changed;
        }

        private void startFrom(int[] words) {
            System.arraycopy(words, 0, apart.words, 0, Net.SIZE);
        }
    }
}
