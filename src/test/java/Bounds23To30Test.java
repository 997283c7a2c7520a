/** The bounds that promises 23 to 30 name: offer, comes, agree, healed, steady, harm, odds, shares. */
public final class Bounds23To30Test {
    private static final Check CHECK = new Check();
    private static final Twins TWINS = new Twins(CHECK);
    private static final int NONE = HoppingMesh.NONE;
    private static final int[] FAR = {Integer.MIN_VALUE, -1000, 1000, Integer.MAX_VALUE};

    /** Meshes with what was done to them, by which calls ahead are compared with the same done by hand. */
    private static final Twins.Calls[] SETTINGS = {
        m -> {
            Check.tell(m, "sm2t2;pa0b1l9;pa1b2l9k3;pa2b3l9;pa3b4l9k3;pa4b5l9;pa5b0l9", 0);
            m.years(9, 5);
            m.deal(5, 3, 0);
        },
        m -> Check.tell(m, "p", 0),
        m -> Check.tell(m, "sm2t2;pl3;pa1b0k3;pa2b3l0", 0),
        m -> {
            Check.tell(m, "su0;pl2;pa2b3k3;pa4b5", 0);
            m.deal(0, 0, 2);
            m.deal(1, 0, 1);
            m.deal(2, 3, 0);
        },
        m -> {
            Check.tell(m, "su0t2;pl2;pa0b2k3", 0);
            m.deal(0, 0, 2);
            m.deal(1, 0, 2);
            m.frames(1);
            m.lose(0);
            m.frames(1);
        },
        m -> {
            Check.tell(m, "sw5c1m3t2;pl4;pa2b3k3l2;pa3b0l1", 0);
            m.loss(6);
            m.years(23, 41);
        },
        m -> {
            Check.tell(m, "sw6c1m2t2;pl1;pa1b0l1;pa2b0k3l5", 0);
            m.loss(7);
            m.years(30, 9);
            m.deal(0, 1, 1);
        },
        m -> {
            Check.tell(m, "sm4t3;pk3l2;pa1b2l2", 0);
            m.years(18, 5);
            m.deal(0, 3, 0);
        },
    };

    public static void main(String[] args) {
        p23Slots();
        p23Offsets();
        p23FreeAlone();
        p23NoneFree();
        p23NoSuchOnes();
        p24Bounds();
        p24NoFrames();
        p24AsFramesGo();
        p24BehindTheLastFrame();
        p25NoSuchPair();
        p25CellsAndSeq();
        p26AllAgree();
        p26WithinNinetyNine();
        p26NoMesh();
        p27WithinForty();
        p27EachOfForty();
        p27NoMesh();
        p28Refused();
        p28NoLetter();
        p28TheLastOfTheFrames();
        p28AsByHand();
        p28OfSeveralTheFirst();
        p29Refused();
        p29NoneAndAll();
        p29AsByHand();
        p30Refused();
        p30None();
        p30Cut();
        askingChangesNothing();
        CHECK.end("Bounds23To30Test", 23, 30);
    }

    private static void p23Slots() {
        CHECK.promise(23, "FREE SLOTS, rising from that one, behind the last one from 0 on, each once");
        for (int slots : new int[] {4, 10, 16}) {
            HoppingMesh mesh = Check.mesh("sw" + slots + "c1;p");
            for (int from = -1; from <= slots; from++) {
                boolean there = from >= 0 && from < slots;
                CHECK.due("how many from " + from, there ? slots : NONE, mesh.offer(0, 0, from, NONE));
                for (int i = 0; i <= slots && slots < 16; i++) {
                    CHECK.due("w" + slots + ": offer(0, 1, " + from + ", " + i + ")",
                            there && i < slots ? (from + i) % slots * 10 : NONE, mesh.offer(0, 1, from, i));
                }
            }
            CHECK.due("the last SLOT first", 10 * (slots - 1), mesh.offer(0, 0, slots - 1, 0));
            CHECK.due("then from 0 on", 0, mesh.offer(0, 0, slots - 1, 1));
            CHECK.due("the one ahead of it last", 10 * (slots - 2), mesh.offer(0, 0, slots - 1, slots - 1));
            CHECK.due("no more", NONE, mesh.offer(0, 0, slots - 1, slots));
        }
    }

    private static void p23Offsets() {
        CHECK.promise(23, "the OFFSET: SLOT and the PAIR's number modulo OFFSETS");
        for (int offsets = 1; offsets <= 4; offsets++) {
            HoppingMesh mesh = Check.mesh("sw16c" + offsets + ";pb1;pb2;pb3;pb4;pb5;pa1b0");
            for (int pair = 0; pair < 6; pair++) {
                for (int i = 0; i < 16; i++) {
                    CHECK.due("c" + offsets + ": offer(" + pair + ", 0, 0, " + i + ")", 10 * i + (i + pair) % offsets,
                            mesh.offer(pair, 0, 0, i));
                }
            }
        }
    }

    private static void p23FreeAlone() {
        CHECK.promise(23, "TAKEN: in its TABLES as SENDER or RECEIVER, and what it has PROMISED");
        HoppingMesh mesh = Check.mesh("sw8c1u0;pa0b1;pa1b2;pa3b1k3");
        mesh.deal(0, 0, 1);
        mesh.frames(2);
        mesh.deal(1, 0, 1);
        mesh.frames(2);
        mesh.deal(2, 0, 1);
        mesh.frames(1);
        mesh.deal(1, 0, 1);
        CHECK.due("TAKEN", 1 | 2 | 4 | 8 | 16 | 32, mesh.node(1, 0));
        CHECK.due("how many", 2, mesh.offer(1, 1, 0, NONE));
        CHECK.due("the first", 60, mesh.offer(1, 1, 0, 0));
        CHECK.due("the second", 70, mesh.offer(1, 1, 0, 1));
        CHECK.due("from the last SLOT", 70, mesh.offer(1, 1, 7, 0));
        CHECK.due("from the last SLOT", 60, mesh.offer(1, 1, 7, 1));
        CHECK.due("NODE 0", 7, mesh.offer(0, 0, 0, NONE));
        CHECK.due("NODE 2", 7, mesh.offer(1, 2, 0, NONE));
        CHECK.due("NODE 3", 8, mesh.offer(2, 3, 0, NONE));
    }

    private static void p23NoneFree() {
        CHECK.promise(23, "none FREE: how many is 0");
        HoppingMesh mesh = Check.mesh("sw4u0;p");
        mesh.deal(0, 0, 3);
        for (int from = 0; from < 4; from++) {
            CHECK.due("all PROMISED", 0, mesh.offer(0, 0, from, NONE));
            CHECK.due("all PROMISED", NONE, mesh.offer(0, 0, from, 0));
            CHECK.due("the RECEIVER's", 4, mesh.offer(0, 1, from, NONE));
        }
        mesh.frames(2);
        CHECK.due("one is FREE again", 1, mesh.offer(0, 0, 0, NONE));
        CHECK.due("one is FREE again", 31, mesh.offer(0, 0, 0, 0));
        CHECK.due("no second", NONE, mesh.offer(0, 0, 0, 1));
    }

    private static void p23NoSuchOnes() {
        CHECK.promise(23, "NONE: no such PAIR, SLOT, one; a NODE that is not of it");
        HoppingMesh mesh = Check.mesh("sw4;pa2b4;pa4b5");
        CHECK.due("no MESH", NONE, new HoppingMesh().offer(0, 0, 0, NONE));
        for (int i = -1; i <= 0; i++) {
            CHECK.due("pair -1", NONE, mesh.offer(-1, 2, 0, i));
            CHECK.due("pair 2", NONE, mesh.offer(2, 2, 0, i));
            CHECK.due("slot -1", NONE, mesh.offer(0, 2, -1, i));
            CHECK.due("slot 4", NONE, mesh.offer(0, 2, 4, i));
            for (int node = -1; node <= 6; node++) {
                boolean first = node == 2 || node == 4;
                boolean second = node == 4 || node == 5;
                CHECK.due("node " + node, first ? i == 0 ? 0 : 4 : NONE, mesh.offer(0, node, 0, i));
                CHECK.due("node " + node, second ? i == 0 ? 1 : 4 : NONE, mesh.offer(1, node, 0, i));
            }
            for (int far : FAR) {
                CHECK.due("pair " + far, NONE, mesh.offer(far, 2, 0, i));
                CHECK.due("node " + far, NONE, mesh.offer(0, far, 0, i));
                CHECK.due("slot " + far, NONE, mesh.offer(0, 2, far, i));
                CHECK.due("one " + far, NONE, mesh.offer(0, 2, 0, far));
            }
        }
        CHECK.due("one 3", 31, mesh.offer(0, 2, 0, 3));
        CHECK.due("one 4", NONE, mesh.offer(0, 2, 0, 4));
        CHECK.due("one -2", NONE, mesh.offer(0, 2, 0, -2));
    }

    private static void p24Bounds() {
        CHECK.promise(24, "NONE: no such PAIR, out of bounds, no such what");
        HoppingMesh mesh = Check.mesh("su0;pl9;pa1b0");
        CHECK.due("n -1", NONE, mesh.comes(0, -1, 1));
        CHECK.due("n 0", 0, mesh.comes(0, 0, 1));
        CHECK.due("n 1", 9, mesh.comes(0, 1, 1));
        CHECK.due("n 60", 60, mesh.comes(1, 60, 1));
        CHECK.due("n 61", NONE, mesh.comes(1, 61, 1));
        CHECK.due("QUEUE at most", 99, mesh.comes(0, 60, 1));
        CHECK.due("pair -1", NONE, mesh.comes(-1, 1, 0));
        CHECK.due("pair 2", NONE, mesh.comes(2, 1, 0));
        CHECK.due("what -1", NONE, mesh.comes(0, 1, -1));
        CHECK.due("what 0", 0, mesh.comes(0, 1, 0));
        CHECK.due("what 2", 0, mesh.comes(0, 1, 2));
        CHECK.due("what 3", NONE, mesh.comes(0, 1, 3));
        for (int far : FAR) {
            CHECK.due("pair " + far, NONE, mesh.comes(far, 1, 0));
            CHECK.due("n " + far, NONE, mesh.comes(0, far, 0));
            CHECK.due("what " + far, NONE, mesh.comes(0, 1, far));
        }
        for (int what = 0; what <= 2; what++) {
            CHECK.due("no MESH", NONE, new HoppingMesh().comes(0, 0, what));
        }
    }

    private static void p24NoFrames() {
        CHECK.promise(24, "in 0 FRAMES: none GOT, QUEUE and CELLS as now");
        HoppingMesh mesh = Check.mesh("su0;pl5");
        mesh.deal(0, 0, 2);
        mesh.frames(4);
        CHECK.due("GOT", 0, mesh.comes(0, 0, 0));
        CHECK.due("QUEUE", mesh.pair(0, 4), mesh.comes(0, 0, 1));
        CHECK.due("CELLS", 2, mesh.comes(0, 0, 2));
        mesh.deal(0, 0, 3);
        mesh.frames(1);
        CHECK.due("CELLS: the SENDER's", 2, mesh.comes(0, 0, 2));
        CHECK.due("CELLS: the SENDER's", 5, mesh.comes(0, 1, 2));
    }

    private static void p24AsFramesGo() {
        CHECK.promise(24, "as all goes on");
        for (Twins.Calls setting : SETTINGS) {
            for (int n : new int[] {0, 1, 2, 7, 39, 60}) {
                HoppingMesh mesh = new HoppingMesh();
                HoppingMesh gone = new HoppingMesh();
                setting.on(mesh);
                setting.on(gone);
                int pairs = mesh.count(0);
                int all = 0;
                for (int i = 0; i < n; i++) {
                    gone.frames(1);
                    all += gone.log(0, 2);
                }
                int got = 0;
                for (int p = 0; p < pairs; p++) {
                    got += mesh.comes(p, n, 0);
                    CHECK.due("QUEUE in " + n, gone.pair(p, 4), mesh.comes(p, n, 1));
                    CHECK.due("CELLS in " + n, gone.pair(p, 9), mesh.comes(p, n, 2));
                }
                CHECK.due("GOT of all in " + n, all, got);
            }
        }
    }

    /** Nothing goes on up to the last FRAME; then all must go on as from another FRAME of the same place in a WINDOW. */
    private static void p24BehindTheLastFrame() {
        CHECK.promise(24, "FRAMES go on behind 9,999");
        HoppingMesh last = Check.mesh("sc1m4;pl0");
        for (int i = 0; i < 249; i++) {
            last.frames(40);
        }
        last.frames(39);
        CHECK.due("FRAME", 9999, last.count(3));
        HoppingMesh early = Check.mesh("sc1m4;pl0");
        early.frames(39);
        last.load(0, 4);
        early.load(0, 4);
        for (int n = 0; n <= 60; n += 5) {
            for (int what = 0; what < 3; what++) {
                CHECK.due("comes(0, " + n + ", " + what + ")", early.comes(0, n, what), last.comes(0, n, what));
            }
        }
        CHECK.due("more than one CELL", true, last.comes(0, 60, 2) > 1);
        CHECK.due("healed", 0, last.healed());
        CHECK.due("steady", early.steady(), last.steady());
        CHECK.due("harm", early.harm(6, 0), last.harm(6, 0));
        CHECK.due("harm", early.harm(6, 1), last.harm(6, 1));
        CHECK.due("odds", early.odds(6, 33), last.odds(6, 33));
        CHECK.due("FRAME", 9999, last.count(3));
    }

    private static void p25NoSuchPair() {
        CHECK.promise(25, "NONE: no such PAIR");
        CHECK.due("no MESH", NONE, new HoppingMesh().agree(0));
        HoppingMesh mesh = Check.mesh("p;pa1b0");
        CHECK.due("pair -1", NONE, mesh.agree(-1));
        CHECK.due("pair 0", 1, mesh.agree(0));
        CHECK.due("pair 1", 1, mesh.agree(1));
        CHECK.due("pair 2", NONE, mesh.agree(2));
        for (int far : FAR) {
            CHECK.due("pair " + far, NONE, mesh.agree(far));
        }
    }

    private static void p25CellsAndSeq() {
        CHECK.promise(25, "the same CELLS and both SEQ alike");
        HoppingMesh mesh = Check.mesh("su0t2;p");
        CHECK.due("both empty", 1, mesh.agree(0));
        mesh.deal(0, 0, 2);
        CHECK.due("a REQUEST", 1, mesh.agree(0));
        mesh.frames(1);
        CHECK.due("one is empty", 0, mesh.agree(0));
        mesh.frames(1);
        CHECK.due("alike", 1, mesh.agree(0));
        mesh.deal(0, 2, 0);
        mesh.frames(1);
        CHECK.due("as many", mesh.pair(0, 9), mesh.pair(0, 10));
        CHECK.due("others", 0, mesh.agree(0));
        mesh.frames(1);
        CHECK.due("alike", 1, mesh.agree(0));
        mesh.deal(0, 1, 2);
        mesh.frames(1);
        mesh.lose(0);
        mesh.frames(2);
        mesh.deal(0, 3, 0);
        mesh.lose(0);
        mesh.frames(3);
        CHECK.due("both empty", 0, mesh.pair(0, 9) + mesh.pair(0, 10));
        CHECK.due("SEQ", 0, mesh.pair(0, 7));
        CHECK.due("SEQ", 3, mesh.pair(0, 8));
        CHECK.due("both empty, SEQ unlike", 0, mesh.agree(0));
    }

    private static void p26AllAgree() {
        CHECK.promise(26, "in how many FRAMES all PAIRS AGREE first");
        for (Twins.Calls setting : SETTINGS) {
            HoppingMesh mesh = new HoppingMesh();
            HoppingMesh gone = new HoppingMesh();
            setting.on(mesh);
            setting.on(gone);
            int frames = 0;
            while (frames < 99 && gone.most(4) != 0) {
                gone.frames(1);
                frames++;
            }
            CHECK.due("healed", gone.most(4) == 0 ? frames : NONE, mesh.healed());
        }
        HoppingMesh two = Check.mesh("su0;p;pa2b3k3");
        two.deal(1, 0, 1);
        two.frames(1);
        two.deal(0, 0, 1);
        CHECK.due("all AGREE now", 0, two.healed());
        two.frames(1);
        CHECK.due("neither does", 3, two.most(4));
        CHECK.due("both by the next", 1, two.healed());
        two.lose(0);
        CHECK.due("one never", NONE, two.healed());
    }

    /**
     * At odds, and for long nothing is begun: of two CELLS one is used. It does not come over any more, so that it is
     * BAD once it was SENT more than twice as often as it was GOT; the MOVE is answered ODD, and CLEAR heals.
     */
    private static HoppingMesh healsLate() {
        HoppingMesh mesh = Check.mesh("sw4c1u0;pl2", "0123");
        mesh.deal(0, 0, 2);
        mesh.frames(40);
        mesh.frames(40);
        mesh.frames(40);
        mesh.deal(0, 0, 1);
        mesh.frames(1);
        mesh.lose(0);
        mesh.load(0, 0);
        mesh.frames(4);
        mesh.jam(0);
        mesh.load(0, 1);
        mesh.frames(1);
        mesh.load(0, 0);
        mesh.auto();
        CHECK.due("QUEUE", 1, mesh.pair(0, 4));
        CHECK.due("at odds", 0, mesh.agree(0));
        return mesh;
    }

    private static void p26WithinNinetyNine() {
        CHECK.promise(26, "(0 .. 99); NONE: not within 99");
        HoppingMesh mesh = healsLate();
        CHECK.due("not within 99", NONE, mesh.healed());
        for (int i = 0; i < 60 && mesh.healed() == NONE; i++) {
            mesh.frames(1);
        }
        CHECK.due("in 99", 99, mesh.healed());
        mesh.undo();
        CHECK.due("in 100", NONE, mesh.healed());
        mesh.frames(1);
        for (int left = 99; left > 0; left--) {
            CHECK.due("at odds", 0, mesh.agree(0));
            if (left % 9 == 0) {
                CHECK.due("in " + left, left, mesh.healed());
            }
            mesh.frames(1);
        }
        CHECK.due("AGREE", 1, mesh.agree(0));
        CHECK.due("healed", 0, mesh.healed());
        HoppingMesh never = Check.mesh("su0;p");
        never.deal(0, 0, 1);
        never.frames(1);
        never.lose(0);
        CHECK.due("never", NONE, never.healed());
    }

    private static void p26NoMesh() {
        CHECK.promise(26, "NONE: no MESH");
        HoppingMesh mesh = new HoppingMesh();
        CHECK.due("healed", NONE, mesh.healed());
        Check.tell(mesh, "p", 0);
        CHECK.due("a new MESH", 0, mesh.healed());
    }

    /** By WINDOWS of nine FRAMES the sixth CELL comes in FRAME 55. */
    private static void p27WithinForty() {
        CHECK.promise(27, "(0 .. 40); NONE: not within 40");
        HoppingMesh mesh = Check.mesh("sm9;pl9");
        CHECK.due("in 56", NONE, mesh.steady());
        mesh.frames(15);
        CHECK.due("in 41", NONE, mesh.steady());
        for (int left = 40; left >= 0; left--) {
            mesh.frames(1);
            CHECK.due("in " + left, left, mesh.steady());
            CHECK.due("six", left == 0 ? 6 : 5, Math.max(5, mesh.pair(0, 9)));
        }
        mesh.frames(1);
        CHECK.due("now", 0, mesh.steady());
        CHECK.due("nothing goes on", 0, Check.mesh("su0;p").steady());
    }

    /** As long as nothing heals both CELLS stay; then the TABLE is empty, and others are added. */
    private static void p27EachOfForty() {
        CHECK.promise(27, "as behind each of the 40 FRAMES from then on");
        HoppingMesh mesh = healsLate();
        mesh.frames(40);
        for (int i = 0; i < 100 && mesh.healed() != 42; i++) {
            mesh.frames(1);
        }
        CHECK.due("a change in 42", 42, mesh.healed());
        CHECK.due("a change in 42", 0, mesh.steady());
        mesh.frames(1);
        CHECK.due("a change in 41", 41, mesh.healed());
        CHECK.due("a change in 41", 0, mesh.steady());
        mesh.frames(1);
        CHECK.due("a change in 40", 40, mesh.healed());
        CHECK.due("a change in 40", NONE, mesh.steady());
        mesh.frames(1);
        CHECK.due("a change in 39", NONE, mesh.steady());
        CHECK.due("CELLS change", true, mesh.comes(0, 38, 2) == 2 && mesh.comes(0, 39, 2) == 0);
        HoppingMesh two = Check.mesh("sm9;pl0;pa2b3l9");
        CHECK.due("all PAIRS", Check.mesh("sm9;pl9").steady(), two.steady());
    }

    private static void p27NoMesh() {
        CHECK.promise(27, "NONE: no MESH");
        HoppingMesh mesh = new HoppingMesh();
        CHECK.due("steady", NONE, mesh.steady());
        Check.tell(mesh, "su0;p", 0);
        CHECK.due("a new MESH", 0, mesh.steady());
    }

    private static void p28Refused() {
        CHECK.promise(28, "NONE: no MESH, out of bounds, no such what");
        CHECK.due("no MESH", NONE, new HoppingMesh().harm(1, 0));
        CHECK.due("no MESH", NONE, new HoppingMesh().harm(1, 1));
        HoppingMesh mesh = Check.mesh("su0;p");
        mesh.deal(0, 0, 1);
        for (int what = 0; what <= 1; what++) {
            CHECK.due("n -1", NONE, mesh.harm(-1, what));
            CHECK.due("n 0", NONE, mesh.harm(0, what));
            CHECK.due("n 1", 0, mesh.harm(1, what));
            CHECK.due("n 6", what == 0 ? 10 : 30, mesh.harm(6, what));
            CHECK.due("n 7", NONE, mesh.harm(7, what));
            for (int far : FAR) {
                CHECK.due("n " + far, NONE, mesh.harm(far, what));
            }
        }
        CHECK.due("what -1", NONE, mesh.harm(1, -1));
        CHECK.due("what 2", NONE, mesh.harm(1, 2));
        for (int far : FAR) {
            CHECK.due("what " + far, NONE, mesh.harm(1, far));
        }
    }

    private static void p28NoLetter() {
        CHECK.promise(28, "NONE: there is no LETTER to be LOST");
        HoppingMesh mesh = Check.mesh("su0;p");
        for (int n = 1; n <= 6; n++) {
            CHECK.due("harm(" + n + ", 0)", NONE, mesh.harm(n, 0));
            CHECK.due("harm(" + n + ", 1)", NONE, mesh.harm(n, 1));
        }
        mesh.deal(0, 3, 0);
        CHECK.due("one that does no harm", 0, mesh.harm(1, 0));
        CHECK.due("one that does no harm", 0, mesh.harm(1, 1));
        mesh.lose(0);
        CHECK.due("it is LOST", NONE, mesh.harm(6, 0));
    }

    private static void p28TheLastOfTheFrames() {
        CHECK.promise(28, "ahead of one of the next n FRAMES (the k-th of these from 0)");
        for (int m = 2; m <= 5; m++) {
            HoppingMesh mesh = Check.mesh("sm" + m + ";p");
            CHECK.due("m" + m + ": harm(" + m + ", 0)", NONE, mesh.harm(m, 0));
            CHECK.due("m" + m + ": harm(" + m + ", 1)", NONE, mesh.harm(m, 1));
            CHECK.due("m" + m + ": harm(" + (m + 1) + ", 0)", 10 * m, mesh.harm(m + 1, 0));
        }
        CHECK.due("m6: the LETTER is ahead of FRAME 6", NONE, Check.mesh("sm6;p").harm(6, 0));
    }

    /** Which and how many, by LOSSES and FRAMES of other objects. */
    private static int[] harmByHand(Twins.Calls setting, int n) {
        int[] worst = {NONE, NONE};
        HoppingMesh first = new HoppingMesh();
        setting.on(first);
        for (int k = 0; k < n; k++) {
            for (int p = 0; p < first.count(0); p++) {
                HoppingMesh mesh = new HoppingMesh();
                setting.on(mesh);
                int atOdds = 0;
                boolean lost = false;
                for (int i = 0; i < 30; i++) {
                    lost = lost || i == k && mesh.lose(p) != NONE;
                    mesh.frames(1);
                    atOdds += mesh.most(4) == 0 ? 0 : 1;
                }
                if (lost && atOdds > worst[1]) {
                    worst[0] = 10 * k + p;
                    worst[1] = atOdds;
                }
            }
        }
        return worst;
    }

    private static void p28AsByHand() {
        CHECK.promise(28, "in the 30 FRAMES from now most behind which not all AGREE");
        for (int i = 0; i < SETTINGS.length; i++) {
            for (int n = 1; n <= 6; n++) {
                HoppingMesh mesh = new HoppingMesh();
                SETTINGS[i].on(mesh);
                int[] due = harmByHand(SETTINGS[i], n);
                CHECK.due("setting " + i + ": harm(" + n + ", 0)", due[0], mesh.harm(n, 0));
                CHECK.due("setting " + i + ": harm(" + n + ", 1)", due[1], mesh.harm(n, 1));
            }
        }
    }

    private static void p28OfSeveralTheFirst() {
        CHECK.promise(28, "of several the first k, the lowest PAIR");
        HoppingMesh mesh = Check.mesh("su0;pl0;pa2b3l0;pa4b5l0");
        mesh.deal(2, 0, 1);
        mesh.deal(1, 0, 1);
        CHECK.due("none at all, the lowest PAIR", 1, mesh.harm(1, 0));
        CHECK.due("both answers alike", 11, mesh.harm(2, 0));
        mesh.frames(1);
        CHECK.due("both answers alike", 1, mesh.harm(1, 0));
        CHECK.due("all 30", 30, mesh.harm(1, 1));
        mesh.frames(1);
        mesh.deal(0, 0, 1);
        mesh.deal(2, 1, 1);
        CHECK.due("two answers in a FRAME", 10, mesh.harm(6, 0));
        HoppingMesh late = Check.mesh("su0;pk3;pa2b3");
        late.deal(0, 0, 1);
        late.frames(1);
        late.deal(1, 0, 1);
        CHECK.due("CONFIRM and answer, both ahead of FRAME 1", 10, late.harm(2, 0));
        CHECK.due("behind all of the 30", 30, late.harm(2, 1));
    }

    private static void p29Refused() {
        CHECK.promise(29, "NONE: no MESH, out of bounds");
        CHECK.due("no MESH", NONE, new HoppingMesh().odds(0, 0));
        HoppingMesh mesh = Check.mesh("su0;p");
        CHECK.due("n -1", NONE, mesh.odds(-1, 50));
        CHECK.due("n 0", 1000000000, mesh.odds(0, 50));
        CHECK.due("n 6", 1000000000, mesh.odds(6, 50));
        CHECK.due("n 7", NONE, mesh.odds(7, 50));
        CHECK.due("chance -1", NONE, mesh.odds(1, -1));
        CHECK.due("chance 0", 1000000000, mesh.odds(1, 0));
        CHECK.due("chance 100", 1000000000, mesh.odds(1, 100));
        CHECK.due("chance 101", NONE, mesh.odds(1, 101));
        for (int far : FAR) {
            CHECK.due("n " + far, NONE, mesh.odds(far, 50));
            CHECK.due("chance " + far, NONE, mesh.odds(1, far));
        }
    }

    private static void p29NoneAndAll() {
        CHECK.promise(29, "n 0; chance 0 and 100");
        HoppingMesh mesh = Check.mesh("su0;p");
        mesh.deal(0, 0, 1);
        for (int chance : new int[] {0, 1, 99, 100}) {
            CHECK.due("n 0: AGREE", 1000000000, mesh.odds(0, chance));
        }
        CHECK.due("the REQUEST is read", 0, mesh.odds(1, 0));
        CHECK.due("the REQUEST is LOST", 1000000000, mesh.odds(1, 100));
        CHECK.due("one in 100", 10000000, mesh.odds(1, 1));
        CHECK.due("99 in 100", 990000000, mesh.odds(1, 99));
        mesh.frames(1);
        CHECK.due("n 0: at odds", 0, mesh.odds(0, 0));
        CHECK.due("n 0: at odds", 0, mesh.odds(0, 100));
        CHECK.due("the answer is read", 1000000000, mesh.odds(1, 0));
        CHECK.due("the answer is LOST", 0, mesh.odds(1, 100));
        HoppingMesh two = Check.mesh("su0;p;pa2b3");
        two.deal(0, 0, 1);
        two.deal(1, 0, 1);
        CHECK.due("all LETTERS under way at once", 250000000, two.odds(1, 25));
    }

    /** Of each part chance 100ths, cut, LOST: ahead of each FRAME, by LOSSES and FRAMES of other objects. */
    private static long oddsByHand(Twins.Calls setting, int n, int chance) {
        long due = 0;
        for (int losses = 0; losses < 1 << n; losses++) {
            HoppingMesh mesh = new HoppingMesh();
            setting.on(mesh);
            long parts = 1000000000L;
            for (int k = 0; k < n; k++) {
                long lost = parts * chance / 100;
                boolean loses = (losses >> k & 1) == 1;
                parts = loses ? lost : parts - lost;
                for (int p = 0; loses && p < mesh.count(0); p++) {
                    mesh.lose(p);
                }
                mesh.frames(1);
            }
            due += mesh.most(4) == 0 ? parts : 0;
        }
        return due;
    }

    private static void p29AsByHand() {
        CHECK.promise(29, "of each part chance 100ths, cut, LOST");
        for (int i = 0; i < SETTINGS.length; i++) {
            for (int n = 0; n <= 6; n++) {
                HoppingMesh mesh = new HoppingMesh();
                SETTINGS[i].on(mesh);
                for (int chance : new int[] {0, 1, 33, 50, 99, 100}) {
                    CHECK.due("setting " + i + ": odds(" + n + ", " + chance + ")",
                            oddsByHand(SETTINGS[i], n, chance), mesh.odds(n, chance));
                }
            }
        }
    }

    private static void p30Refused() {
        CHECK.promise(30, "NONE: no such PAIR, out of bounds");
        CHECK.due("no MESH", NONE, new HoppingMesh().shares(0, 0));
        HoppingMesh mesh = Check.mesh("su0;p;pa1b0");
        mesh.deal(0, 0, 1);
        mesh.frames(2);
        CHECK.due("pair -1", NONE, mesh.shares(-1, 1));
        CHECK.due("pair 2", NONE, mesh.shares(2, 1));
        CHECK.due("c -1", NONE, mesh.shares(0, -1));
        CHECK.due("c 0", 0, mesh.shares(0, 0));
        CHECK.due("c 1", 1, mesh.shares(0, 1));
        CHECK.due("c 999", 999, mesh.shares(0, 999));
        CHECK.due("c 1000", NONE, mesh.shares(0, 1000));
        CHECK.due("the other PAIR", 0, mesh.shares(1, 999));
        for (int far : FAR) {
            CHECK.due("pair " + far, NONE, mesh.shares(far, 1));
            CHECK.due("c " + far, NONE, mesh.shares(0, far));
        }
    }

    private static void p30None() {
        CHECK.promise(30, "none: 0");
        HoppingMesh mesh = Check.mesh("su0;p;pa1b0");
        CHECK.due("no CELL", 0, mesh.shares(0, 999));
        CHECK.due("no CELL", 0, mesh.shares(1, 0));
        mesh.deal(0, 0, 1);
        mesh.jam(0);
        mesh.jam(1);
        mesh.frames(6);
        CHECK.due("SENT", 5, mesh.cell(0, 0, 0, 1));
        CHECK.due("none GOT", 0, mesh.shares(0, 999));
        mesh.jam(0);
        mesh.jam(1);
        mesh.frames(1);
        CHECK.due("one GOT", 999, mesh.shares(0, 999));
        mesh.deal(0, 1, 1);
        mesh.frames(2);
        CHECK.due("the CELL is gone", 0, mesh.shares(0, 999));
    }

    private static void p30Cut() {
        CHECK.promise(30, "c times that of all its CELLS by that of all PAIRS', cut");
        HoppingMesh mesh = Check.mesh("sc3u0;pl3;pa2b3l2;pa4b5l1");
        for (int p = 0; p < 3; p++) {
            mesh.deal(p, 0, 3 - p);
        }
        mesh.frames(3);
        int[] got = new int[3];
        int all = 0;
        for (int p = 0; p < 3; p++) {
            for (int i = 0; i < mesh.pair(p, 9); i++) {
                got[p] += mesh.cell(p, 0, i, 2);
            }
            all += got[p];
        }
        CHECK.due("GOT of all", 12, all);
        CHECK.due("GOT of PAIR 0", 6, got[0]);
        CHECK.due("GOT of PAIR 1", 4, got[1]);
        for (int c : new int[] {0, 1, 2, 3, 5, 7, 11, 100, 998, 999}) {
            for (int p = 0; p < 3; p++) {
                CHECK.due("shares(" + p + ", " + c + ")", c * got[p] / 12, mesh.shares(p, c));
            }
        }
        HoppingMesh six = Check.mesh("sc4u0;pb1l1;pb2l1;pb3l1;pb4l1;pb5l1;pa1b0l1");
        six.deal(5, 0, 1);
        six.frames(2);
        CHECK.due("the last of six PAIRS", 999, six.shares(5, 999));
        six.deal(0, 0, 1);
        six.frames(2);
        CHECK.due("of six PAIRS", 250, six.shares(0, 999) + 1);
        CHECK.due("of six PAIRS", 749, six.shares(5, 999));
        HoppingMesh full = Check.mesh("su0;pl6;pa2b3l6");
        for (int p = 0; p < 2; p++) {
            full.deal(p, 0, 3);
        }
        full.frames(2);
        for (int p = 0; p < 2; p++) {
            full.deal(p, 0, 3);
        }
        for (int i = 0; i < 26; i++) {
            full.frames(40);
        }
        CHECK.due("GOT at most", 999, full.cell(1, 0, 5, 2));
        CHECK.due("half of 999, cut", 499, full.shares(0, 999));
        CHECK.due("half of 998", 499, full.shares(1, 998));
    }

    private static void askingChangesNothing() {
        Twins.Calls[] asked = {m -> m.offer(0, 0, 3, 2), m -> m.comes(0, 60, 0), m -> m.agree(0), HoppingMesh::healed,
            HoppingMesh::steady, m -> m.harm(6, 1), m -> m.odds(6, 40), m -> m.shares(0, 99)};
        for (int i = 0; i < asked.length; i++) {
            CHECK.promise(23 + i, "apart: asking changes nothing");
            for (Twins.Calls setting : SETTINGS) {
                TWINS.unchanged("asked", setting, asked[i]);
            }
        }
    }
}
