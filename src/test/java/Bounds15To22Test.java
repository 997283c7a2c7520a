/** The bounds that promises 15 to 22 name: lose, jam, load, auto, years, status, undo, log. */
public final class Bounds15To22Test {
    private static final Check CHECK = new Check();
    private static final Twins TWINS = new Twins(CHECK);
    private static final int NONE = HoppingMesh.NONE;
    private static final int[] FAR = {Integer.MIN_VALUE, -1000, 1000, Integer.MAX_VALUE};

    public static void main(String[] args) {
        p15NoSuchPair();
        p15NoLetter();
        p15WhatItWas();
        p15TheOthersStay();
        p16Bounds();
        p16NoMesh();
        p16OrNot();
        p17NoSuchPair();
        p17Bounds();
        p17ItIsSo();
        p18NoMesh();
        p18OrNot();
        p19Refused();
        p19HowMany();
        p19LastFrame();
        p19SeedsGoRound();
        p19DrawOfAPair();
        p19DrawOfAChannel();
        p19OneActEach();
        p20NoSuchWhat();
        p20EachCounted();
        p20OfSeveralTheFirst();
        p20NotUndone();
        p21None();
        p21Latest40();
        p21EachAct();
        p21RefusedIsNoAct();
        p21LogToo();
        p22NothingYet();
        p22Latest60();
        p22NoSuchOnes();
        p22WhatIsInIt();
        CHECK.end("Bounds15To22Test", 15, 22);
    }

    /** Two PAIRS, CELLS, a LETTER of each sort under way in turn, an IMAGE and ACTS. */
    private static void busy(HoppingMesh mesh) {
        Check.tell(mesh, "su0;pl2;pa2b1k3", 0);
        mesh.deal(0, 0, 2);
        mesh.deal(1, 0, 1);
        mesh.frames(2);
        mesh.image();
        mesh.jam(4);
        mesh.deal(0, 2, 1);
    }

    private static void p15NoSuchPair() {
        CHECK.promise(15, "NONE: no such PAIR (STATUS 0)");
        HoppingMesh none = new HoppingMesh();
        CHECK.due("no MESH", NONE, none.lose(0));
        CHECK.status(none, 1, 0, 0, 0, 0);
        for (int pair : new int[] {-1, 2, 6, Integer.MIN_VALUE, Integer.MAX_VALUE}) {
            TWINS.unchanged("lose(" + pair + ")", Bounds15To22Test::busy,
                    m -> CHECK.due("lose(" + pair + ")", NONE, m.lose(pair)), 1);
        }
    }

    private static void p15NoLetter() {
        CHECK.promise(15, "NONE: none (2)");
        HoppingMesh mesh = Check.mesh("su0;p");
        CHECK.due("nothing yet", NONE, mesh.lose(0));
        mesh.deal(0, 0, 1);
        CHECK.due("under way", 0, mesh.lose(0));
        CHECK.due("it is LOST", NONE, mesh.lose(0));
        mesh.undo();
        mesh.frames(2);
        CHECK.due("all are read", NONE, mesh.lose(0));
        CHECK.status(mesh, 0, 0, 3, 0, 0);
        TWINS.unchanged("none", m -> {
            Check.tell(m, "su0;p;pa2b3", 0);
            m.deal(1, 0, 1);
        }, m -> m.lose(0), 0, 0, 1);
    }

    private static void p15WhatItWas() {
        CHECK.promise(15, "what it was (0 REQUEST, 1 answer, 2 CONFIRM)");
        HoppingMesh mesh = Check.mesh("su0;pk3");
        mesh.deal(0, 0, 1);
        for (int sort = 0; sort <= 2; sort++) {
            CHECK.due("lose", sort, mesh.lose(0));
            CHECK.letter(mesh, 0);
            CHECK.due("UNDER WAY", 0, mesh.most(3));
            mesh.frames(1);
            CHECK.letter(mesh, 0);
            mesh.undo();
            mesh.undo();
            CHECK.due("under way again", sort, mesh.letter(0, 0));
            mesh.frames(1);
        }
        CHECK.due("none", NONE, mesh.lose(0));
    }

    private static void p15TheOthersStay() {
        CHECK.promise(15, "that LETTER alone; the SENDER WAITS on");
        HoppingMesh mesh = Check.mesh("su0;p;pa2b3;pa4b5");
        for (int p = 0; p < 3; p++) {
            mesh.deal(p, 0, 1);
        }
        mesh.lose(1);
        CHECK.due("UNDER WAY", 5, mesh.most(3));
        CHECK.due("WAITING", 7, mesh.most(1));
        CHECK.waits(mesh, 1, 0, 1, 0, 2);
        mesh.frames(2);
        CHECK.tables(mesh, 0, 0);
        CHECK.tables(mesh, 1);
        CHECK.tables(mesh, 2, 0);
    }

    private static void p16Bounds() {
        CHECK.promise(16, "a CHANNEL (0 .. 15); out of bounds (1)");
        for (int channel = 0; channel <= 15; channel++) {
            HoppingMesh mesh = Check.mesh("p");
            CHECK.due("jam(" + channel + ")", 1, mesh.jam(channel));
            CHECK.due("JAMMED", 1 << channel, mesh.most(8));
            CHECK.status(mesh, 0, 0, 0, 0, 0);
        }
        for (int channel : new int[] {-1, 16, 32, -32, Integer.MIN_VALUE, Integer.MAX_VALUE}) {
            TWINS.unchanged("jam(" + channel + ")", Bounds15To22Test::busy,
                    m -> CHECK.due("jam(" + channel + ")", NONE, m.jam(channel)), 0, 1);
        }
    }

    private static void p16NoMesh() {
        CHECK.promise(16, "NONE: no MESH (STATUS 0)");
        HoppingMesh mesh = new HoppingMesh();
        CHECK.due("jam(0)", NONE, mesh.jam(0));
        CHECK.due("of several the first", NONE, mesh.jam(16));
        CHECK.status(mesh, 2, 0, 0, 0, 0);
        Check.tell(mesh, "p", 0);
        CHECK.due("none JAMMED", 0, mesh.most(8));
        CHECK.due("no ACT", NONE, mesh.undo());
    }

    private static void p16OrNot() {
        CHECK.promise(16, "JAMMED, or not: whether it is then (1, 0)");
        HoppingMesh mesh = Check.mesh("p");
        int bits = 0;
        for (int channel = 0; channel <= 15; channel++) {
            CHECK.due("jam(" + channel + ")", 1, mesh.jam(channel));
            bits |= 1 << channel;
            CHECK.due("JAMMED", bits, mesh.most(8));
        }
        CHECK.due("all", 65535, mesh.most(8));
        for (int channel = 15; channel >= 0; channel--) {
            CHECK.due("jam(" + channel + ")", 0, mesh.jam(channel));
            bits &= ~(1 << channel);
            CHECK.due("JAMMED", bits, mesh.most(8));
        }
        CHECK.due("ACTS", 32, mesh.count(6));
    }

    private static void p17NoSuchPair() {
        CHECK.promise(17, "NONE: no such PAIR (STATUS 0)");
        HoppingMesh none = new HoppingMesh();
        CHECK.due("no MESH", NONE, none.load(0, 1));
        CHECK.due("of several the first", NONE, none.load(0, 10));
        CHECK.status(none, 2, 0, 0, 0, 0);
        for (int pair : new int[] {-1, 2, 6, Integer.MIN_VALUE, Integer.MAX_VALUE}) {
            TWINS.unchanged("load(" + pair + ", 5)", Bounds15To22Test::busy,
                    m -> CHECK.due("load(" + pair + ", 5)", NONE, m.load(pair, 5)), 1);
            TWINS.unchanged("of several the first", Bounds15To22Test::busy, m -> m.load(pair, 10), 1);
        }
    }

    private static void p17Bounds() {
        CHECK.promise(17, "out of bounds (1)");
        for (int v = 0; v <= 9; v++) {
            HoppingMesh mesh = Check.mesh("su0;pl" + (v == 5 ? 4 : 5));
            CHECK.due("how it was", v == 5 ? 4 : 5, mesh.load(0, v));
            CHECK.due("LOAD", v, mesh.pair(0, 3));
            mesh.frames(1);
            CHECK.due("QUEUE", v, mesh.pair(0, 4));
            CHECK.status(mesh, 0, 0, 0, 0, 0);
        }
        for (int v : new int[] {-1, 10, Integer.MIN_VALUE, Integer.MAX_VALUE}) {
            TWINS.unchanged("load(0, " + v + ")", Bounds15To22Test::busy,
                    m -> CHECK.due("load(0, " + v + ")", NONE, m.load(0, v)), 0, 1);
        }
    }

    private static void p17ItIsSo() {
        CHECK.promise(17, "it is so (2)");
        for (int v = 0; v <= 9; v++) {
            HoppingMesh mesh = Check.mesh("pl" + v);
            CHECK.due("as told", NONE, mesh.load(0, v));
            CHECK.due("another", v, mesh.load(0, 9 - v));
            CHECK.due("as set", NONE, mesh.load(0, 9 - v));
            CHECK.status(mesh, 0, 0, 2, 0, 0);
            CHECK.due("ACTS", 1, mesh.count(6));
            mesh.undo();
            CHECK.due("UNDONE", NONE, mesh.load(0, v));
        }
        TWINS.unchanged("it is so", Bounds15To22Test::busy, m -> m.load(0, 2), 0, 0, 1);
    }

    private static void p18NoMesh() {
        CHECK.promise(18, "NONE: no MESH (STATUS 0)");
        HoppingMesh mesh = new HoppingMesh();
        CHECK.due("auto", NONE, mesh.auto());
        CHECK.status(mesh, 1, 0, 0, 0, 0);
        Check.tell(mesh, "p", 0);
        CHECK.due("as told", 1, mesh.rule(4));
        CHECK.due("no ACT", NONE, mesh.undo());
        Check.tell(mesh, "su0;p", 0);
        CHECK.due("as told", 0, mesh.rule(4));
    }

    private static void p18OrNot() {
        CHECK.promise(18, "AUTO, or not: whether it is then (1, 0)");
        HoppingMesh mesh = Check.mesh("p");
        for (int i = 0; i < 5; i++) {
            CHECK.due("auto", i % 2, mesh.auto());
            CHECK.due("rule(4)", i % 2, mesh.rule(4));
            CHECK.due("ACTS", i + 1, mesh.count(6));
        }
        mesh.undo();
        CHECK.due("UNDONE", 1, mesh.rule(4));
        CHECK.due("su0", 1, Check.mesh("su0;p").auto());
        CHECK.status(mesh, 0, 0, 0, 0, 0);
    }

    private static void p19Refused() {
        CHECK.promise(19, "NONE: no MESH, out of bounds; no STATUS");
        HoppingMesh none = new HoppingMesh();
        CHECK.due("no MESH", NONE, none.years(1, 5));
        CHECK.status(none, 0, 0, 0, 0, 0);
        for (int n : new int[] {-1, 0, 41, Integer.MIN_VALUE, Integer.MAX_VALUE}) {
            TWINS.unchanged("years(" + n + ")", Bounds15To22Test::busy,
                    m -> CHECK.due("years(" + n + ")", NONE, m.years(n, 5)));
        }
    }

    private static void p19HowMany() {
        CHECK.promise(19, "n (1 .. 40) FRAMES: the FRAME");
        HoppingMesh mesh = Check.mesh("p");
        CHECK.due("years(1)", 1, mesh.years(1, 3));
        CHECK.due("years(2)", 3, mesh.years(2, 3));
        CHECK.due("years(40)", 43, mesh.years(40, 3));
        CHECK.due("LOG", 43, mesh.count(5));
        CHECK.due("ACTS", 40, mesh.count(6));
        CHECK.status(mesh, 0, 0, 0, 0, 0);
    }

    private static void p19LastFrame() {
        CHECK.promise(19, "NONE: beyond 9,999");
        HoppingMesh mesh = Check.mesh("su0;p");
        for (int i = 0; i < 249; i++) {
            mesh.frames(40);
        }
        CHECK.due("9960 and 40", NONE, mesh.years(40, 1));
        CHECK.due("not one of them went", 9960, mesh.count(3));
        CHECK.due("9960 and 39", 9999, mesh.years(39, 1));
        CHECK.due("9999 and 1", NONE, mesh.years(1, 1));
        CHECK.due("FRAME", 9999, mesh.count(3));
        CHECK.status(mesh, 0, 0, 0, 0, 0);
        mesh.undo();
        CHECK.due("9998 and 2", NONE, mesh.years(2, 1));
        CHECK.due("9998 and 1", 9999, mesh.years(1, 1));
    }

    private static int draw(long[] x, int j) {
        x[0] = x[0] * 6364136223846793005L + 1442695040888963407L;
        return (int) Long.remainderUnsigned(x[0] >>> 33, j);
    }

    /** What the draws of a seed tell, done by hand on another object. */
    private static void byHand(HoppingMesh mesh, int n, long seed) {
        long[] x = {seed};
        for (int i = 0; i < n; i++) {
            if (draw(x, 10) < mesh.count(4)) {
                mesh.lose(draw(x, mesh.count(0)));
            }
            if (draw(x, 20) < 1) {
                mesh.jam(draw(x, 16));
            }
            mesh.frames(1);
        }
    }

    private static void sameButActs(HoppingMesh hand, HoppingMesh mesh) {
        CHECK.due("JAMMED", hand.most(8), mesh.most(8));
        CHECK.due("UNDER WAY", hand.most(3), mesh.most(3));
        for (int p = 0; p < hand.count(0); p++) {
            for (int what = 4; what <= 10; what++) {
                CHECK.due("pair(" + p + ", " + what + ")", hand.pair(p, what), mesh.pair(p, what));
            }
        }
        for (int i = 0; i < hand.count(5); i++) {
            CHECK.due("log(" + i + ", 0)", hand.log(i, 0), mesh.log(i, 0));
            CHECK.due("log(" + i + ", 2)", hand.log(i, 2), mesh.log(i, 2));
        }
    }

    private static void p19SeedsGoRound() {
        CHECK.promise(19, "64 bits, going round; shifted right without sign");
        long[] seeds = {0, 1, -1, 2, -2, Long.MIN_VALUE, Long.MAX_VALUE, Long.MIN_VALUE + 1, 1L << 33, 1L << 32,
            0x5555555555555555L, 0xaaaaaaaaaaaaaaaaL, 6364136223846793005L, -1442695040888963407L};
        for (long seed : seeds) {
            for (int loss : new int[] {0, 5, 9}) {
                HoppingMesh mesh = Check.mesh("sm2t2;p;pa1b2k3l3;pa2b0");
                HoppingMesh hand = Check.mesh("sm2t2;p;pa1b2k3l3;pa2b0");
                mesh.loss(loss);
                hand.loss(loss);
                CHECK.due("years(40, " + seed + ")", 40, mesh.years(40, seed));
                byHand(hand, 40, seed);
                sameButActs(hand, mesh);
            }
        }
    }

    /** Each PAIR has a LETTER; LOSS 9: the PAIR drawn has none any more, or none is LOST by a draw of 9. */
    private static void p19DrawOfAPair() {
        CHECK.promise(19, "a draw of how many PAIRS: its LETTER, if any, is LOST");
        String text = "su0;pb1";
        for (int pairs = 1; pairs <= 6; pairs++) {
            int seen = 0;
            for (long seed = 0; seed < 60; seed++) {
                HoppingMesh mesh = Check.mesh(text);
                mesh.loss(9);
                for (int p = 0; p < pairs; p++) {
                    mesh.deal(p, 3, 0);
                }
                long[] x = {seed};
                boolean lost = draw(x, 10) < 9;
                int gone = lost ? 1 << draw(x, pairs) : 0;
                mesh.years(1, seed);
                CHECK.due("answers under way", (1 << pairs) - 1 - gone, mesh.most(3));
                seen |= gone;
            }
            CHECK.due("each PAIR was drawn", (1 << pairs) - 1, seen);
            text = text + ";pa" + pairs + "b0";
        }
        HoppingMesh none = Check.mesh("su0;p");
        none.loss(9);
        none.years(40, 1);
        CHECK.status(none, 0, 0, 0, 0, 0);
    }

    private static void p19DrawOfAChannel() {
        CHECK.promise(19, "a draw of 20 below 1: a draw of 16: JAMMED, or not any more");
        int seen = 0;
        int times = 0;
        for (long seed = 0; seed < 2000; seed++) {
            long[] x = {seed};
            if (draw(x, 10) < 2) {
                draw(x, 1);
            }
            boolean jams = draw(x, 20) < 1;
            int bit = jams ? 1 << draw(x, 16) : 0;
            HoppingMesh mesh = Check.mesh("su0;p");
            mesh.years(1, seed);
            CHECK.due("JAMMED by seed " + seed, bit, mesh.most(8));
            if (jams) {
                times++;
                seen |= bit;
                mesh.years(1, seed);
                CHECK.due("not any more by seed " + seed, 0, mesh.most(8));
            }
        }
        CHECK.due("each CHANNEL was drawn", 65535, seen);
        CHECK.due("some 100 times", true, times > 50 && times < 200);
    }

    private static void p19OneActEach() {
        CHECK.promise(19, "each FRAME with what is ahead of it is one ACT");
        HoppingMesh mesh = Check.mesh("sm2t2;p;pa1b2k3l3");
        mesh.loss(9);
        mesh.years(20, 12);
        int[] jammed = new int[21];
        int[] letters = new int[21];
        HoppingMesh again = Check.mesh("sm2t2;p;pa1b2k3l3");
        again.loss(9);
        long[] x = {12};
        for (int i = 0; i < 20; i++) {
            jammed[i] = again.most(8);
            letters[i] = again.most(3);
            if (draw(x, 10) < 9) {
                again.lose(draw(x, 2));
            }
            if (draw(x, 20) < 1) {
                again.jam(draw(x, 16));
            }
            again.frames(1);
        }
        for (int i = 19; i >= 0; i--) {
            CHECK.due("undo", i, mesh.undo());
            CHECK.due("FRAME", i, mesh.count(3));
            CHECK.due("JAMMED ahead of FRAME " + i, jammed[i], mesh.most(8));
            CHECK.due("LETTERS ahead of FRAME " + i, letters[i], mesh.most(3));
        }
    }

    private static void p20NoSuchWhat() {
        CHECK.promise(20, "NONE: no such what");
        HoppingMesh mesh = new HoppingMesh();
        CHECK.due("status(-1)", NONE, mesh.status(-1));
        CHECK.due("status(5)", NONE, mesh.status(5));
        for (int what : FAR) {
            CHECK.due("status(" + what + ")", NONE, mesh.status(what));
        }
        CHECK.status(mesh, 0, 0, 0, 0, 0);
    }

    private static void p20EachCounted() {
        CHECK.promise(20, "how many ACTS were refused, each by its cause");
        HoppingMesh mesh = Check.mesh("su0;p");
        for (int i = 1; i <= 3; i++) {
            mesh.deal(1, 0, 1);
            CHECK.status(mesh, i, i - 1, i - 1, i - 1, 0);
            mesh.jam(16);
            CHECK.status(mesh, i, i, i - 1, i - 1, 0);
            mesh.load(0, 1);
            CHECK.status(mesh, i, i, i, i - 1, 0);
            mesh.deal(0, 1, 1);
            CHECK.status(mesh, i, i, i, i, 0);
        }
        mesh.lose(0);
        mesh.deal(0, 2, 0);
        CHECK.status(mesh, 3, 3, 5, 3, 0);
        HoppingMesh late = Check.mesh("su0;pl0");
        for (int i = 0; i < 249; i++) {
            late.frames(40);
        }
        late.frames(40);
        late.frames(40);
        CHECK.status(late, 0, 0, 0, 0, 2);
    }

    private static void p20OfSeveralTheFirst() {
        CHECK.promise(20, "of several the first");
        HoppingMesh none = new HoppingMesh();
        none.frames(99);
        none.deal(9, 9, 9);
        none.jam(99);
        none.load(9, 99);
        CHECK.status(none, 4, 0, 0, 0, 0);
        HoppingMesh mesh = Check.mesh("su0;p");
        mesh.deal(0, 3, 0);
        mesh.deal(1, 9, 9);
        mesh.load(1, 10);
        CHECK.status(mesh, 2, 0, 0, 0, 0);
        mesh.deal(0, 2, 9);
        mesh.deal(0, 9, 0);
        CHECK.status(mesh, 2, 2, 0, 0, 0);
        mesh.deal(0, 2, 0);
        CHECK.status(mesh, 2, 2, 1, 0, 0);
        mesh.deal(0, 1, 1);
        CHECK.status(mesh, 2, 2, 1, 1, 0);
    }

    private static void p20NotUndone() {
        CHECK.promise(20, "not UNDONE; no other call counts");
        HoppingMesh mesh = Check.mesh("su0;p");
        mesh.frames(3);
        mesh.image();
        mesh.frames(2);
        mesh.jam(16);
        mesh.lose(0);
        mesh.undo();
        mesh.back();
        mesh.undo();
        CHECK.status(mesh, 0, 1, 1, 0, 0);
        mesh.feed(0, 0, 0, 0, 0);
        mesh.end(1);
        mesh.text(0);
        mesh.text(7);
        mesh.fault(7);
        mesh.rule(9);
        mesh.cell(9, 9, 9, 9);
        mesh.waits(9, 9, 9);
        mesh.letter(9, 9);
        mesh.channel(-1, -1);
        mesh.loss(99);
        mesh.years(99, 1);
        mesh.log(99, 9);
        mesh.offer(9, 9, 9, 9);
        mesh.comes(9, 99, 9);
        mesh.agree(9);
        mesh.harm(9, 9);
        mesh.odds(9, 999);
        mesh.shares(9, 9999);
        mesh.node(9, 9);
        mesh.most(99);
        mesh.count(99);
        CHECK.throwsNoSuchElement(mesh, 9, 9);
        CHECK.status(mesh, 0, 1, 1, 0, 0);
        Check.tell(mesh, "p", 0);
        CHECK.status(mesh, 0, 1, 1, 0, 0);
    }

    private static void p21None() {
        CHECK.promise(21, "NONE: none");
        HoppingMesh mesh = new HoppingMesh();
        CHECK.due("no MESH", NONE, mesh.undo());
        Check.tell(mesh, "su0;p", 0);
        CHECK.due("nothing yet", NONE, mesh.undo());
        mesh.frames(1);
        CHECK.due("one", 0, mesh.undo());
        CHECK.due("none left", NONE, mesh.undo());
        CHECK.due("FRAME", 0, mesh.count(3));
        mesh.frames(2);
        mesh.image();
        mesh.frames(2);
        mesh.back();
        CHECK.due("BACK", NONE, mesh.undo());
        CHECK.due("FRAME", 2, mesh.count(3));
        mesh.frames(2);
        Check.tell(mesh, "su0;p", 0);
        CHECK.due("another MESH", NONE, mesh.undo());
        CHECK.status(mesh, 0, 0, 0, 0, 0);
        TWINS.unchanged("none", m -> {
            Check.tell(m, "p", 0);
            m.frames(9);
            m.image();
            m.back();
        }, HoppingMesh::undo);
    }

    private static void p21Latest40() {
        CHECK.promise(21, "the latest 40 can be UNDONE one by one");
        for (int acts : new int[] {1, 39, 40, 41, 45, 80, 81}) {
            HoppingMesh mesh = Check.mesh("su0;p");
            for (int i = 0; i < acts; i++) {
                if (i % 2 == 0) {
                    mesh.frames(1);
                } else {
                    mesh.jam(i % 16);
                }
            }
            int left = Math.min(40, acts);
            CHECK.due(acts + " ACTS", left, mesh.count(6));
            for (int i = left - 1; i >= 0; i--) {
                CHECK.due(acts + " ACTS: undo", i, mesh.undo());
                CHECK.due(acts + " ACTS: count(6)", i, mesh.count(6));
            }
            CHECK.due(acts + " ACTS: no more", NONE, mesh.undo());
            CHECK.due(acts + " ACTS: FRAME", (acts - left + 1) / 2, mesh.count(3));
        }
    }

    private static void p21EachAct() {
        CHECK.promise(21, "the latest ACT is UNDONE");
        Twins.Calls[] acts = {m -> m.frames(1), m -> m.deal(1, 3, 0), m -> m.lose(0), m -> m.jam(4), m -> m.jam(5),
            m -> m.load(0, 9), m -> m.auto(), m -> m.years(1, 77)};
        for (int i = 0; i < acts.length; i++) {
            Twins.Calls act = acts[i];
            TWINS.unchanged("act " + i, Bounds15To22Test::busyEnd, m -> {
                int before = m.count(6);
                act.on(m);
                CHECK.due("one ACT more", before + 1, m.count(6));
                CHECK.due("undo", before, m.undo());
            });
        }
    }

    private static void busyEnd(HoppingMesh mesh) {
        busy(mesh);
        mesh.frames(1);
    }

    private static void p21RefusedIsNoAct() {
        CHECK.promise(21, "what is refused is no ACT");
        HoppingMesh mesh = Check.mesh("su0;p");
        mesh.frames(3);
        mesh.frames(0);
        mesh.deal(0, 1, 1);
        mesh.deal(3, 0, 1);
        mesh.lose(0);
        mesh.jam(16);
        mesh.load(0, 1);
        mesh.years(0, 1);
        mesh.loss(5);
        mesh.image();
        CHECK.due("ACTS", 3, mesh.count(6));
        CHECK.due("undo", 2, mesh.undo());
        CHECK.due("FRAME", 2, mesh.count(3));
    }

    private static void p21LogToo() {
        CHECK.promise(21, "the LOG is UNDONE, too");
        HoppingMesh mesh = Check.mesh("su0;pl0");
        mesh.deal(0, 0, 1);
        mesh.frames(2);
        boolean[] got = new boolean[100];
        for (int i = 2; i < 94; i++) {
            got[i] = i % 3 == 0;
            int load = got[i] ? 1 : 0;
            if (mesh.pair(0, 3) != load) {
                mesh.load(0, load);
            }
            mesh.frames(1);
        }
        for (int frame = 94; frame > 84; frame = mesh.count(3)) {
            CHECK.due("LOG is full", 60, mesh.count(5));
            for (int i = 0; i < 60; i += 7) {
                CHECK.due("FRAME " + frame + ": log(" + i + ", 2)", got[frame - 1 - i] ? 1 : 0, mesh.log(i, 2));
            }
            CHECK.due("the last", got[frame - 60] ? 1 : 0, mesh.log(59, 2));
            mesh.undo();
        }
        HoppingMesh few = Check.mesh("su0;p");
        few.frames(3);
        few.undo();
        CHECK.due("LOG", 2, few.count(5));
        CHECK.due("LOG", NONE, few.log(2, 0));
    }

    private static void p22NothingYet() {
        CHECK.promise(22, "NONE: nothing is there yet");
        HoppingMesh mesh = new HoppingMesh();
        CHECK.due("no MESH", NONE, mesh.log(0, 0));
        Check.tell(mesh, "p", 0);
        for (int what = 0; what < 3; what++) {
            CHECK.due("no FRAME", NONE, mesh.log(0, what));
        }
        mesh.jam(1);
        CHECK.due("another ACT", NONE, mesh.log(0, 0));
        mesh.frames(1);
        CHECK.due("one FRAME", 0, mesh.log(0, 0));
        CHECK.due("one FRAME", NONE, mesh.log(1, 0));
    }

    /** Up to 59 FRAMES each LOG is there, behind them the latest 60: in FRAME i the LOAD tells which. */
    private static void p22Latest60() {
        CHECK.promise(22, "the latest 60");
        HoppingMesh mesh = Check.mesh("su0;pl0");
        mesh.deal(0, 0, 1);
        mesh.frames(5);
        mesh.load(0, 1);
        mesh.frames(1);
        mesh.load(0, 0);
        mesh.frames(1);
        CHECK.due("FRAME 5", 1, mesh.log(1, 2));
        mesh.frames(40);
        mesh.frames(12);
        CHECK.due("59", 59, mesh.count(5));
        CHECK.due("59", NONE, mesh.log(59, 0));
        CHECK.due("FRAME 0", 1, mesh.log(58, 0));
        mesh.frames(1);
        CHECK.due("60", 60, mesh.count(5));
        CHECK.due("FRAME 0", 1, mesh.log(59, 0));
        CHECK.due("FRAME 5", 1, mesh.log(54, 2));
        CHECK.due("60", NONE, mesh.log(60, 0));
        mesh.frames(1);
        CHECK.due("61", 60, mesh.count(5));
        CHECK.due("FRAME 1", 0, mesh.log(59, 0));
        CHECK.due("FRAME 5", 1, mesh.log(55, 2));
        CHECK.due("61", NONE, mesh.log(60, 0));
        mesh.frames(4);
        CHECK.due("FRAME 5", 1, mesh.log(59, 2));
        mesh.frames(1);
        CHECK.due("FRAME 6", 0, mesh.log(59, 2));
    }

    private static void p22NoSuchOnes() {
        CHECK.promise(22, "NONE: no such ones");
        HoppingMesh mesh = Check.mesh("p");
        mesh.frames(3);
        CHECK.due("log(2, 2)", 0, mesh.log(2, 2));
        CHECK.due("log(3, 0)", NONE, mesh.log(3, 0));
        CHECK.due("log(-1, 0)", NONE, mesh.log(-1, 0));
        CHECK.due("log(0, 3)", NONE, mesh.log(0, 3));
        CHECK.due("log(0, -1)", NONE, mesh.log(0, -1));
        for (int far : FAR) {
            CHECK.due("log(" + far + ", 0)", NONE, mesh.log(far, 0));
            CHECK.due("log(0, " + far + ")", NONE, mesh.log(0, far));
        }
    }

    private static void p22WhatIsInIt() {
        CHECK.promise(22, "LETTERS under way then, CELLS that both TABLES have, how many were GOT");
        HoppingMesh mesh = Check.mesh("su0;pl3;pa2b3k3l0");
        mesh.deal(0, 0, 2);
        mesh.deal(1, 0, 3);
        int[][] due = {{2, 0, 0}, {1, 2, 2}, {0, 5, 2}, {0, 5, 2}};
        for (int[] row : due) {
            mesh.frames(1);
            for (int what = 0; what < 3; what++) {
                CHECK.due("log(0, " + what + ")", row[what], mesh.log(0, what));
            }
        }
        mesh.deal(0, 1, 1);
        mesh.frames(1);
        CHECK.due("CELLS of both", 4, mesh.log(0, 1));
        CHECK.due("GOT", 1, mesh.log(0, 2));
    }
}
