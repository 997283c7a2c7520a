/** The bounds that promises 31 to 35 name: node, most, image, back, count. */
public final class Bounds31To35Test {
    private static final Check CHECK = new Check();
    private static final Twins TWINS = new Twins(CHECK);
    private static final int NONE = HoppingMesh.NONE;
    private static final int HIDDEN = HoppingMesh.HIDDEN;
    private static final int[] FAR = {Integer.MIN_VALUE, -1000, 1000, Integer.MAX_VALUE};

    public static void main(String[] args) {
        p31NoSuchOnes();
        p31FirstAndLastSlot();
        p31AllSlots();
        p31BothWays();
        p31DoubleIsNone();
        p32NoSuchWhat();
        p32NothingYet();
        p32Collide();
        p32Waiting();
        p32UnderWayAndAtOdds();
        p32OfSeveralTheLowest();
        p32Fullest();
        p32Longest();
        p32Loudest();
        p32Jammed();
        p32Bad();
        p32BadOfThree();
        p32BadOfTheSender();
        p33NoMesh();
        p33InsteadOfTheOneAhead();
        p33NoAct();
        p34NoImage();
        p34AllIsSoAgain();
        p34NoActThen();
        p34FullLog();
        p34WhatIsNotKept();
        p35NoSuchWhat();
        p35EachCount();
        CHECK.end("Bounds31To35Test", 31, 35);
    }

    private static void p31NoSuchOnes() {
        CHECK.promise(31, "NONE: no MESH, no such NODE, what");
        HoppingMesh mesh = Check.mesh("p");
        for (int node = -1; node <= 6; node++) {
            for (int what = -1; what <= 2; what++) {
                boolean there = node >= 0 && node <= 5 && what >= 0 && what <= 1;
                CHECK.due("node(" + node + ", " + what + ")", there ? 0 : NONE, mesh.node(node, what));
                CHECK.due("no MESH", NONE, new HoppingMesh().node(node, what));
            }
        }
        for (int far : FAR) {
            CHECK.due("node " + far, NONE, mesh.node(far, 0));
            CHECK.due("what " + far, NONE, mesh.node(0, far));
        }
    }

    private static void p31FirstAndLastSlot() {
        CHECK.promise(31, "SLOTS (bits), the first and the last");
        HoppingMesh mesh = Check.mesh("sw16c4u0;pa5b4");
        mesh.deal(0, 0, 1);
        CHECK.due("PROMISED 0 and 1", 3, mesh.node(5, 0));
        mesh.frames(2);
        CHECK.due("SLOT 0", 1, mesh.node(5, 0));
        CHECK.due("SLOT 0", 1, mesh.node(4, 0));
        for (int slot = 1; slot <= 15; slot++) {
            mesh.deal(0, 2, 0);
            mesh.frames(2);
            CHECK.due("SLOT " + slot, 1 << slot, mesh.node(5, 0));
            CHECK.due("SLOT " + slot, 1 << slot, mesh.node(4, 0));
        }
        CHECK.due("a NODE of none", 0, mesh.node(0, 0));
        mesh.deal(0, 2, 0);
        CHECK.due("PROMISED 0 and 1", 1 << 15 | 3, mesh.node(5, 0));
        for (int slot = 0; slot < 14; slot++) {
            mesh.frames(2);
            mesh.deal(0, 2, 0);
            CHECK.due("PROMISED behind SLOT " + slot, 7 << slot, mesh.node(5, 0));
            CHECK.due("the RECEIVER's", 1 << slot, mesh.node(4, 0));
        }
    }

    private static void p31AllSlots() {
        CHECK.promise(31, "all SLOTS TAKEN");
        HoppingMesh mesh = Check.mesh("sw16c1u0;pa0b1;pa0b2;pa0b3");
        for (int p = 0; p < 3; p++) {
            for (int i = 0; i < 2; i++) {
                mesh.deal(p, 0, 3);
                mesh.frames(2);
            }
        }
        CHECK.due("NODE 0", 65535, mesh.node(0, 0));
        CHECK.due("NODE 1", 63, mesh.node(1, 0));
        CHECK.due("NODE 2", 63 << 6, mesh.node(2, 0));
        CHECK.due("NODE 3", 15 << 12, mesh.node(3, 0));
        CHECK.due("no OFFER", NONE, mesh.deal(2, 0, 1));
    }

    private static void p31BothWays() {
        CHECK.promise(31, "TAKEN as SENDER, as RECEIVER, by what is PROMISED");
        HoppingMesh mesh = Check.mesh("sw8c1u0;pa0b1;pa1b2;pa2b1k3");
        mesh.deal(0, 0, 1);
        mesh.frames(1);
        CHECK.due("the RECEIVER's CELL", 1, mesh.node(1, 0));
        CHECK.due("the SENDER's PROMISES", 3, mesh.node(0, 0));
        mesh.frames(1);
        CHECK.due("the SENDER's CELL", 1, mesh.node(0, 0));
        mesh.deal(1, 0, 1);
        CHECK.due("as RECEIVER and PROMISED as SENDER", 1 | 6, mesh.node(1, 0));
        mesh.deal(2, 0, 1);
        mesh.frames(1);
        CHECK.due("PROMISED as RECEIVER, too", 1 | 6 | 8 | 16, mesh.node(1, 0));
        CHECK.due("the other", 2, mesh.node(2, 0));
    }

    private static void p31DoubleIsNone() {
        CHECK.promise(31, "DOUBLE: two CELLS or more in its TABLES");
        HoppingMesh apart = Check.mesh("sc1u0;pa0b1;pa2b3;pa4b5");
        for (int p = 0; p < 3; p++) {
            apart.deal(p, 0, 2);
        }
        apart.frames(2);
        for (int node = 0; node <= 5; node++) {
            CHECK.due("BUSY", 3, apart.node(node, 0));
            CHECK.due("SLOTS that others have, too", 0, apart.node(node, 1));
        }
        HoppingMesh mesh = Check.mesh("sw4c1m2t2;pa0b1l9;pa1b0l9k3;pa0b2l9;pa2b1l9k3");
        mesh.loss(5);
        for (int seed = 0; seed < 10; seed++) {
            mesh.years(7, seed);
            for (int node = 0; node <= 5; node++) {
                CHECK.due("one CELL in a SLOT", 0, mesh.node(node, 1));
            }
        }
    }

    private static void p32NoSuchWhat() {
        CHECK.promise(32, "HIDDEN: no MESH, no such what");
        HoppingMesh mesh = Check.mesh("p");
        HoppingMesh none = new HoppingMesh();
        for (int what = -1; what <= 10; what++) {
            CHECK.due("no MESH: most(" + what + ")", HIDDEN, none.most(what));
        }
        CHECK.due("most(-1)", HIDDEN, mesh.most(-1));
        CHECK.due("most(10)", HIDDEN, mesh.most(10));
        for (int far : FAR) {
            CHECK.due("most(" + far + ")", HIDDEN, mesh.most(far));
        }
    }

    private static void p32NothingYet() {
        CHECK.promise(32, "nothing is there yet");
        for (String text : new String[] {"p", "pb1;pb2;pb3;pb4;pb5;pa1b0"}) {
            HoppingMesh mesh = Check.mesh(text);
            for (int what = 0; what <= 8; what++) {
                CHECK.due("most(" + what + ")", 0, mesh.most(what));
            }
            CHECK.due("no BAD CELL", NONE, mesh.most(9));
        }
    }

    private static void p32Collide() {
        CHECK.promise(32, "COLLIDE: a CELL of a number that another PAIR's SENDER has, too");
        HoppingMesh mesh = Check.mesh("sc1u0;pl0;pa2b3l0;pa4b5l0");
        mesh.deal(0, 0, 2);
        mesh.deal(1, 0, 1);
        mesh.frames(1);
        CHECK.due("the RECEIVERS' alone", 0, mesh.most(0));
        mesh.frames(1);
        CHECK.due("CELL 0 of both", 3, mesh.most(0));
        mesh.deal(2, 0, 1);
        mesh.frames(1);
        CHECK.due("the RECEIVER's of PAIR 2", 3, mesh.most(0));
        mesh.frames(1);
        CHECK.due("of all", 7, mesh.most(0));
        mesh.deal(1, 2, 0);
        mesh.frames(2);
        CHECK.due("moved to the second CELL", 7, mesh.most(0));
        mesh.deal(1, 2, 0);
        mesh.frames(2);
        CHECK.due("moved on", 5, mesh.most(0));
        for (int first = 0; first < 2; first++) {
            HoppingMesh two = Check.mesh("sc1u0;pa0b1;pa2b3");
            two.deal(first, 0, 1);
            two.frames(2);
            two.deal(1 - first, 0, 1);
            two.frames(1);
            CHECK.due("a SENDER and another's RECEIVER", 0, two.most(0));
            two.frames(1);
            CHECK.due("both SENDERS", 3, two.most(0));
        }
        HoppingMesh six = Check.mesh("sc1u0;pa0b1;pa2b3;pa4b5;pa1b2;pa3b4;pa5b0");
        six.deal(0, 0, 1);
        six.deal(1, 0, 1);
        six.deal(2, 0, 1);
        six.frames(2);
        six.deal(5, 0, 1);
        six.frames(2);
        CHECK.due("another SLOT", 7, six.most(0));
        HoppingMesh offsets = Check.mesh("sc2u0;pa0b1;pa2b3;pa4b5");
        for (int p = 0; p < 3; p++) {
            offsets.deal(p, 0, 1);
        }
        offsets.frames(2);
        CHECK.due("the OFFSET counts, too", 5, offsets.most(0));
    }

    private static void p32Waiting() {
        CHECK.promise(32, "WAITING of SENDERS, of RECEIVERS");
        HoppingMesh mesh = Check.mesh("su0;pk3;pa2b3;pa4b5k3;pa1b2;pa3b4;pa5b0k3");
        for (int p = 0; p < 6; p++) {
            mesh.deal(p, 0, 1);
            CHECK.due("SENDERS", (2 << p) - 1, mesh.most(1));
            CHECK.due("UNDER WAY", (2 << p) - 1, mesh.most(3));
        }
        CHECK.due("RECEIVERS", 0, mesh.most(2));
        mesh.frames(1);
        CHECK.due("SENDERS", 63, mesh.most(1));
        CHECK.due("RECEIVERS of 3 STEPS", 1 | 4 | 32, mesh.most(2));
        mesh.frames(1);
        CHECK.due("SENDERS", 0, mesh.most(1));
        CHECK.due("RECEIVERS of 3 STEPS", 1 | 4 | 32, mesh.most(2));
        CHECK.due("CONFIRMS", 1 | 4 | 32, mesh.most(3));
        mesh.frames(1);
        CHECK.due("RECEIVERS", 0, mesh.most(2));
        CHECK.due("UNDER WAY", 0, mesh.most(3));
    }

    private static void p32UnderWayAndAtOdds() {
        CHECK.promise(32, "AT ODDS: PAIRS that do not AGREE");
        HoppingMesh mesh = Check.mesh("su0;pb1;pb2;pb3;pb4;pb5;pa1b0");
        mesh.deal(0, 0, 1);
        mesh.deal(4, 0, 1);
        CHECK.due("UNDER WAY", 17, mesh.most(3));
        CHECK.due("AT ODDS", 0, mesh.most(4));
        mesh.frames(1);
        CHECK.due("UNDER WAY", 17, mesh.most(3));
        CHECK.due("AT ODDS", 17, mesh.most(4));
        mesh.lose(0);
        mesh.frames(1);
        CHECK.due("AT ODDS", 1, mesh.most(4));
        CHECK.due("UNDER WAY", 0, mesh.most(3));
    }

    private static void p32OfSeveralTheLowest() {
        CHECK.promise(32, "of several the lowest, all");
        HoppingMesh mesh = Check.mesh("sc1u0;pa0b1l1;pa2b3l3;pa4b5l3");
        CHECK.due("FULLEST", 0, mesh.most(5));
        CHECK.due("LONGEST", 0, mesh.most(6));
        CHECK.due("LOUDEST", 1, mesh.most(7));
        mesh.deal(1, 0, 2);
        mesh.deal(2, 0, 2);
        mesh.frames(1);
        CHECK.due("LONGEST", 1, mesh.most(6));
        mesh.frames(1);
        CHECK.due("FULLEST", 1, mesh.most(5));
        HoppingMesh six = Check.mesh("pb1l0;pb2l0;pb3l0;pb4l0;pb5l0;pa1b0l9");
        CHECK.due("the last one", 5, six.most(7));
    }

    private static void p32Fullest() {
        CHECK.promise(32, "FULLEST: most CELLS (the SENDER's)");
        HoppingMesh mesh = Check.mesh("su0;pa0b1;pa2b3");
        mesh.deal(0, 0, 1);
        mesh.frames(2);
        mesh.deal(1, 0, 2);
        mesh.frames(1);
        CHECK.due("the RECEIVER's does not count", 0, mesh.most(5));
        mesh.frames(1);
        CHECK.due("two", 1, mesh.most(5));
        mesh.deal(1, 1, 1);
        mesh.frames(1);
        CHECK.due("still two", 1, mesh.most(5));
        mesh.frames(1);
        CHECK.due("one each", 0, mesh.most(5));
    }

    private static void p32Longest() {
        CHECK.promise(32, "LONGEST: with most QUEUE");
        HoppingMesh mesh = Check.mesh("su0;pa0b1l8;pa2b3l9");
        mesh.frames(1);
        CHECK.due("9", 1, mesh.most(6));
        mesh.frames(12);
        CHECK.due("99 both", 0, mesh.most(6));
        mesh.deal(0, 0, 1);
        mesh.load(0, 0);
        mesh.frames(2);
        CHECK.due("98 and 99", 1, mesh.most(6));
    }

    private static void p32Loudest() {
        CHECK.promise(32, "LOUDEST: with most LOAD");
        HoppingMesh mesh = Check.mesh("pa0b1l4;pa2b3l4;pa4b5l4");
        CHECK.due("alike", 0, mesh.most(7));
        mesh.load(2, 5);
        CHECK.due("one more", 2, mesh.most(7));
        mesh.load(1, 5);
        CHECK.due("of two the lowest", 1, mesh.most(7));
        mesh.load(0, 9);
        CHECK.due("9", 0, mesh.most(7));
        mesh.undo();
        CHECK.due("UNDONE", 1, mesh.most(7));
    }

    private static void p32Jammed() {
        CHECK.promise(32, "JAMMED: CHANNELS (bits)");
        HoppingMesh mesh = Check.mesh("p");
        mesh.jam(0);
        CHECK.due("the first", 1, mesh.most(8));
        mesh.jam(15);
        CHECK.due("the last, too", 32769, mesh.most(8));
        mesh.jam(0);
        CHECK.due("not any more", 32768, mesh.most(8));
    }

    /** By these HOPS the CHANNEL of a CELL is its SLOT. */
    private static HoppingMesh withCells(int slots, String pairs) {
        HoppingMesh mesh = Check.mesh("sw" + slots + "c1u0" + pairs, "012345".substring(0, slots));
        for (int p = 0; p < mesh.count(0); p++) {
            mesh.deal(p, 0, 2);
        }
        mesh.frames(1);
        return mesh;
    }

    private static void p32Bad() {
        CHECK.promise(32, "the BAD CELL of the lowest PAIR that has one (NONE: there is none)");
        HoppingMesh mesh = withCells(4, ";pl2");
        mesh.jam(1);
        mesh.frames(3);
        CHECK.due("SENT 3", NONE, mesh.most(9));
        mesh.frames(1);
        CHECK.due("SENT 4", 10, mesh.most(9));
        mesh.jam(1);
        mesh.frames(3);
        CHECK.due("3 of 7, the other 7 of 7", 10, mesh.most(9));
        mesh.frames(1);
        CHECK.due("4 of 8 is half", NONE, mesh.most(9));
        mesh.jam(0);
        mesh.frames(8);
        CHECK.due("8 of 16, the other 12 of 16", NONE, mesh.most(9));
        mesh.frames(9);
        CHECK.due("8 of 25, the other 21 of 25", 0, mesh.most(9));
        HoppingMesh alone = withCells(4, ";pl2");
        alone.jam(0);
        alone.frames(5);
        CHECK.due("0 of 5, the other 5 of 5", 0, alone.most(9));
        alone.deal(0, 1, 1);
        alone.frames(2);
        CHECK.table(alone, 0, 0, 0);
        CHECK.due("the other is gone", NONE, alone.most(9));
        HoppingMesh pairs = withCells(4, ";pl0;pa2b3l2;pa4b5l0");
        pairs.jam(0);
        pairs.frames(5);
        CHECK.due("of PAIR 1", 0, pairs.most(9));
        HoppingMesh several = withCells(6, ";pa0b1l0;pa2b3l2;pa0b3l2");
        several.jam(1);
        several.jam(2);
        several.frames(5);
        CHECK.table(several, 1, 0, 0, 10);
        CHECK.due("of the lower PAIR", 10, several.most(9));
    }

    /** Three CELLS are SENT in eight FRAMES; place by place so often they are JAMMED. */
    private static int badOf(int... jammed) {
        HoppingMesh mesh = Check.mesh("sw4c1u0;pl0", "0123");
        mesh.deal(0, 0, 3);
        mesh.frames(2);
        for (int channel = 0; channel < 3; channel++) {
            if (jammed[channel] > 0) {
                mesh.jam(channel);
            }
        }
        mesh.load(0, 9);
        for (int frame = 1; frame <= 8; frame++) {
            mesh.frames(1);
            for (int channel = 0; channel < 3; channel++) {
                if (jammed[channel] == frame) {
                    mesh.jam(channel);
                }
            }
        }
        for (int place = 0; place < 3; place++) {
            CHECK.due("SENT", 8, mesh.cell(0, 0, place, 1));
            CHECK.due("GOT", 8 - jammed[place], mesh.cell(0, 0, place, 2));
        }
        return mesh.most(9);
    }

    private static void p32BadOfThree() {
        CHECK.promise(32, "BAD: less than half of the greatest, the least, in any order");
        int[][] orders = {{0, 1, 2}, {0, 2, 1}, {1, 0, 2}, {1, 2, 0}, {2, 0, 1}, {2, 1, 0}};
        int[][] counts = {{0, 6, 5}, {0, 8, 7}, {0, 4, 0}, {2, 5, 3}, {2, 6, 5}, {8, 8, 8}, {0, 5, 5}};
        boolean[] bad = {true, true, false, false, true, false, true};
        for (int[] order : orders) {
            for (int row = 0; row < counts.length; row++) {
                int[] jammed = new int[3];
                for (int i = 0; i < 3; i++) {
                    jammed[order[i]] = counts[row][i];
                }
                int least = jammed[1] > jammed[0] ? jammed[2] > jammed[1] ? 2 : 1 : jammed[2] > jammed[0] ? 2 : 0;
                CHECK.due("GOT less by " + jammed[0] + ", " + jammed[1] + ", " + jammed[2],
                        bad[row] ? 10 * least : NONE, badOf(jammed));
            }
        }
    }

    private static void p32BadOfTheSender() {
        CHECK.promise(32, "BAD: a CELL of the SENDER's TABLE");
        HoppingMesh mesh = Check.mesh("sw4c1u0;pl0");
        mesh.deal(0, 0, 2);
        mesh.frames(2);
        mesh.deal(0, 2, 0);
        mesh.frames(1);
        mesh.lose(0);
        CHECK.table(mesh, 0, 1, 10, 20);
        mesh.load(0, 9);
        mesh.frames(4);
        CHECK.due("BAD", 0, mesh.most(9));
    }

    private static void p33NoMesh() {
        CHECK.promise(33, "NONE: no MESH");
        HoppingMesh mesh = new HoppingMesh();
        CHECK.due("image", NONE, mesh.image());
        Check.tell(mesh, "p", 0);
        CHECK.due("none was made", NONE, mesh.back());
        CHECK.status(mesh, 0, 0, 0, 0, 0);
    }

    private static void p33InsteadOfTheOneAhead() {
        CHECK.promise(33, "instead of the one ahead: the FRAME");
        HoppingMesh mesh = Check.mesh("su0;p");
        CHECK.due("FRAME 0", 0, mesh.image());
        mesh.frames(40);
        CHECK.due("FRAME 40", 40, mesh.image());
        mesh.frames(2);
        CHECK.due("the later one", 40, mesh.back());
        mesh.frames(1);
        CHECK.due("FRAME 41", 41, mesh.image());
        mesh.undo();
        CHECK.due("an earlier FRAME", 40, mesh.image());
        mesh.frames(3);
        CHECK.due("the later one", 40, mesh.back());
    }

    private static void p33NoAct() {
        CHECK.promise(33, "no ACT, nothing else changes");
        TWINS.unchanged("image", m -> {
            Check.tell(m, "pl2;pa2b3k3", 0);
            m.years(20, 4);
            m.deal(0, 3, 0);
            m.image();
        }, HoppingMesh::image);
        HoppingMesh mesh = Check.mesh("p");
        mesh.frames(3);
        mesh.image();
        CHECK.due("ACTS", 3, mesh.count(6));
        CHECK.due("undo", 2, mesh.undo());
        CHECK.due("undo leaves the IMAGE", 3, mesh.back());
    }

    private static void p34NoImage() {
        CHECK.promise(34, "NONE: no IMAGE of this MESH");
        HoppingMesh mesh = new HoppingMesh();
        CHECK.due("no MESH", NONE, mesh.back());
        Check.tell(mesh, "p", 0);
        CHECK.due("none yet", NONE, mesh.back());
        mesh.frames(2);
        mesh.image();
        Check.tell(mesh, "p", 0);
        mesh.frames(5);
        CHECK.due("of another MESH, alike", NONE, mesh.back());
        CHECK.due("FRAME", 5, mesh.count(3));
        CHECK.due("ACTS", 5, mesh.count(6));
        mesh.image();
        Check.feed(mesh, "p;p");
        CHECK.due("refused", NONE, mesh.text(0));
        CHECK.due("of this MESH", 5, mesh.back());
        Check.tell(mesh, "12", 1);
        CHECK.due("HOPS are no MESH", 5, mesh.back());
        TWINS.unchanged("none", m -> {
            Check.tell(m, "pl2", 0);
            m.frames(9);
        }, HoppingMesh::back);
    }

    private static void deeds(HoppingMesh mesh) {
        Check.tell(mesh, "sm2t2;pl3;pa2b3k3", 0);
        mesh.deal(0, 0, 2);
        mesh.years(13, 3);
        mesh.jam(3);
        mesh.load(1, 7);
    }

    private static void p34AllIsSoAgain() {
        CHECK.promise(34, "BACK: they are so again");
        Twins.Calls[] states = {
            m -> m.deal(0, 3, 0),
            m -> {
                m.deal(1, 0, 2);
                m.frames(1);
            },
            m -> {
                m.auto();
                m.jam(9);
            },
            m -> {
                m.deal(1, 0, 3);
                m.lose(1);
                m.frames(1);
            },
            m -> {
                m.frames(3);
                m.deal(0, 1, 1);
                m.frames(1);
                m.lose(0);
            },
        };
        for (int i = 0; i < states.length; i++) {
            Twins.Calls state = states[i];
            TWINS.unchanged("state " + i, m -> {
                deeds(m);
                state.on(m);
                m.image();
                m.back();
            }, m -> {
                int frame = m.count(3);
                m.jam(1);
                m.auto();
                m.load(0, 9);
                m.lose(0);
                m.lose(1);
                m.years(25, 99);
                CHECK.due("the FRAME", frame, m.back());
                m.frames(7);
                CHECK.due("again", frame, m.back());
            }, 0, 0, 2 - Integer.bitCount(letters(state)));
        }
    }

    private static int letters(Twins.Calls state) {
        HoppingMesh mesh = new HoppingMesh();
        deeds(mesh);
        state.on(mesh);
        return mesh.most(3);
    }

    private static void p34NoActThen() {
        CHECK.promise(34, "no ACT can be UNDONE then");
        HoppingMesh mesh = Check.mesh("su0;p");
        mesh.frames(10);
        mesh.image();
        mesh.back();
        CHECK.due("at once", 0, mesh.count(6));
        CHECK.due("undo", NONE, mesh.undo());
        CHECK.due("FRAME", 10, mesh.count(3));
        mesh.frames(40);
        CHECK.due("ACTS", 40, mesh.count(6));
        mesh.back();
        CHECK.due("ACTS", 0, mesh.count(6));
        mesh.jam(1);
        CHECK.due("those behind it", 0, mesh.undo());
        CHECK.due("none of those ahead", NONE, mesh.undo());
        mesh.frames(40);
        mesh.frames(2);
        for (int i = 39; i >= 0; i--) {
            CHECK.due("40 again", i, mesh.undo());
        }
        CHECK.due("FRAME", 12, mesh.count(3));
    }

    private static void p34FullLog() {
        CHECK.promise(34, "the LOG, empty, in part and full");
        for (int n : new int[] {0, 1, 30, 59, 60, 61, 95}) {
            HoppingMesh mesh = Check.mesh("su0;pl0");
            mesh.deal(0, 0, 1);
            for (int i = 0; i < n; i++) {
                if (i > 1 && i % 3 < 2) {
                    mesh.load(0, 1 - i % 3);
                }
                mesh.frames(1);
            }
            int[] got = new int[60];
            int[] rest = new int[60];
            for (int i = 0; i < 60; i++) {
                got[i] = mesh.log(i, 2);
            }
            for (int i = 2; i < 60; i += 19) {
                rest[i] = mesh.log(i, 0) * 10 + mesh.log(i, 1);
            }
            mesh.image();
            mesh.load(0, 5);
            mesh.frames(37);
            mesh.frames(31);
            CHECK.due(n + ": back", n, mesh.back());
            CHECK.due(n + ": LOG", Math.min(n, 60), mesh.count(5));
            for (int i = 0; i < 60; i++) {
                CHECK.due(n + ": log(" + i + ", 2)", got[i], mesh.log(i, 2));
            }
            for (int i = 2; i < 60; i += 19) {
                CHECK.due(n + ": log(" + i + ", 0 and 1)", rest[i], mesh.log(i, 0) * 10 + mesh.log(i, 1));
            }
            CHECK.due(n + ": log(60, 2)", NONE, mesh.log(60, 2));
            mesh.frames(2);
            CHECK.due(n + ": goes on", n == 0 ? 0 : got[0], mesh.log(2, 2) == NONE ? 0 : mesh.log(2, 2));
            mesh.undo();
            mesh.undo();
            CHECK.due(n + ": UNDONE", got[0], mesh.log(0, 2));
            CHECK.due(n + ": UNDONE", got[59], mesh.log(59, 2));
        }
    }

    private static void p34WhatIsNotKept() {
        CHECK.promise(34, "LOSS, HOPS, STATUS and the TAPE are not of it");
        HoppingMesh mesh = Check.mesh("su0;p", "12");
        mesh.image();
        mesh.loss(8);
        mesh.jam(16);
        Check.tell(mesh, "345", 1);
        Check.feed(mesh, "xyz");
        mesh.back();
        CHECK.due("LOSS", 8, mesh.count(4));
        CHECK.due("HOPS", 3, mesh.count(1));
        CHECK.due("HOPS", 3, mesh.channel(0, 0));
        CHECK.due("TAPE", 3, mesh.count(2));
        CHECK.status(mesh, 0, 1, 0, 0, 0);
    }

    private static void p35NoSuchWhat() {
        CHECK.promise(35, "HIDDEN for others");
        HoppingMesh mesh = Check.mesh("p");
        for (HoppingMesh asked : new HoppingMesh[] {mesh, new HoppingMesh()}) {
            CHECK.due("count(-1)", HIDDEN, asked.count(-1));
            CHECK.due("count(7)", HIDDEN, asked.count(7));
            for (int far : FAR) {
                CHECK.due("count(" + far + ")", HIDDEN, asked.count(far));
            }
        }
    }

    private static void counts(HoppingMesh mesh, int... want) {
        for (int what = 0; what < want.length; what++) {
            CHECK.due("count(" + what + ")", want[what], mesh.count(what));
        }
    }

    private static void p35EachCount() {
        CHECK.promise(35, "PAIRS, HOPS, bytes, the FRAME, LOSS, how long the LOG is, ACTS");
        HoppingMesh mesh = new HoppingMesh();
        counts(mesh, 0, 0, 0, 0, 2, 0, 0);
        Check.tell(mesh, "pb1;pb2;pb3;pb4;pb5;pa1b0", 0);
        counts(mesh, 6, 0, 0, 0, 2, 0, 0);
        Check.tell(mesh, "0123456789012345", 1);
        counts(mesh, 6, 16, 0, 0, 2, 0, 0);
        Check.feed(mesh, "x".repeat(240));
        counts(mesh, 6, 16, 240, 0, 2, 0, 0);
        mesh.loss(9);
        mesh.frames(40);
        counts(mesh, 6, 16, 240, 40, 9, 40, 40);
        mesh.jam(0);
        counts(mesh, 6, 16, 240, 40, 9, 40, 40);
        mesh.frames(19);
        counts(mesh, 6, 16, 240, 59, 9, 59, 40);
        mesh.frames(1);
        counts(mesh, 6, 16, 240, 60, 9, 60, 40);
        mesh.frames(1);
        counts(mesh, 6, 16, 240, 61, 9, 60, 40);
        mesh.undo();
        counts(mesh, 6, 16, 240, 60, 9, 60, 39);
        mesh.undo();
        counts(mesh, 6, 16, 240, 59, 9, 59, 38);
        mesh.end(0);
        Check.tell(mesh, "p", 0);
        counts(mesh, 1, 16, 0, 0, 9, 0, 0);
    }
}
