/** Promises 31 to 35: node, most, image, back, count. */
public final class ViewTest {
    private static final Check CHECK = new Check();
    private static final int NONE = HoppingMesh.NONE;
    private static final int HIDDEN = HoppingMesh.HIDDEN;

    public static void main(String[] args) {
        node();
        mostOfPairs();
        mostOfValues();
        mostBad();
        image();
        imageKeepsAll();
        imageKeepsTheLog();
        count();
        CHECK.end("ViewTest");
    }

    private static void node() {
        HoppingMesh mesh = new HoppingMesh();
        CHECK.due("no MESH", NONE, mesh.node(0, 0));
        Check.tell(mesh, "sw16u0;pa0b1;pa1b2k3", 0);
        mesh.deal(0, 0, 2);
        CHECK.due("PROMISED by the SENDER", 7, mesh.node(0, 0));
        CHECK.due("not by the RECEIVER", 0, mesh.node(1, 0));
        mesh.frames(1);
        CHECK.due("its TABLE", 3, mesh.node(1, 0));
        mesh.frames(1);
        CHECK.due("its TABLE", 3, mesh.node(0, 0));
        mesh.deal(1, 0, 3);
        mesh.frames(1);
        CHECK.due("PROMISED by the RECEIVER", 15, mesh.node(2, 0));
        CHECK.due("as RECEIVER alone", 3, mesh.node(1, 0));
        mesh.frames(1);
        CHECK.due("as RECEIVER and SENDER", 15, mesh.node(1, 0));
        CHECK.due("DOUBLE", 0, mesh.node(1, 1));
        CHECK.due("a NODE of none", 0, mesh.node(5, 0));
        CHECK.due("a NODE of none", 0, mesh.node(5, 1));
        CHECK.due("no such NODE", NONE, mesh.node(6, 0));
        CHECK.due("no such NODE", NONE, mesh.node(-1, 0));
        CHECK.due("no such what", NONE, mesh.node(0, 2));
        CHECK.due("no such what", NONE, mesh.node(0, -1));
    }

    private static void mostOfPairs() {
        HoppingMesh mesh = new HoppingMesh();
        for (int what = -1; what <= 10; what++) {
            CHECK.due("no MESH: most(" + what + ")", HIDDEN, mesh.most(what));
        }
        Check.tell(mesh, "sc1u0;pa0b1;pa2b3k3;pa4b5", 0);
        for (int what = 0; what <= 4; what++) {
            CHECK.due("at first: most(" + what + ")", 0, mesh.most(what));
        }
        mesh.deal(1, 0, 1);
        mesh.deal(2, 0, 1);
        CHECK.due("WAITING SENDERS", 6, mesh.most(1));
        CHECK.due("WAITING RECEIVERS", 0, mesh.most(2));
        CHECK.due("UNDER WAY", 6, mesh.most(3));
        CHECK.due("AT ODDS", 0, mesh.most(4));
        mesh.frames(1);
        CHECK.due("WAITING RECEIVERS", 2, mesh.most(2));
        CHECK.due("AT ODDS", 4, mesh.most(4));
        CHECK.due("COLLIDE: the SENDERS' alone", 0, mesh.most(0));
        mesh.frames(1);
        CHECK.due("COLLIDE", 6, mesh.most(0));
        mesh.deal(2, 2, 0);
        mesh.frames(2);
        CHECK.due("moved", 10, mesh.cell(2, 0, 0, 0));
        CHECK.due("COLLIDE not any more", 0, mesh.most(0));
        mesh.undo();
        mesh.undo();
        mesh.undo();
        CHECK.due("WAITING SENDERS", 0, mesh.most(1));
        CHECK.due("WAITING RECEIVERS", 2, mesh.most(2));
        CHECK.due("UNDER WAY", 2, mesh.most(3));
        CHECK.due("AT ODDS", 2, mesh.most(4));
        CHECK.due("no such what", HIDDEN, mesh.most(-1));
        CHECK.due("no such what", HIDDEN, mesh.most(10));
    }

    private static void mostOfValues() {
        HoppingMesh mesh = Check.mesh("su0;pa0b1l2;pa2b3l4;pa4b5l4");
        CHECK.due("FULLEST of all alike", 0, mesh.most(5));
        CHECK.due("LONGEST of all alike", 0, mesh.most(6));
        CHECK.due("LOUDEST", 1, mesh.most(7));
        mesh.load(0, 5);
        CHECK.due("LOUDEST", 0, mesh.most(7));
        mesh.deal(1, 0, 1);
        mesh.deal(2, 0, 2);
        mesh.frames(1);
        CHECK.due("LONGEST", 0, mesh.most(6));
        CHECK.due("FULLEST: the SENDER's", 0, mesh.most(5));
        mesh.load(0, 0);
        mesh.frames(1);
        CHECK.due("FULLEST", 2, mesh.most(5));
        CHECK.due("LONGEST", 1, mesh.most(6));
        CHECK.due("JAMMED", 0, mesh.most(8));
        mesh.jam(0);
        mesh.jam(9);
        CHECK.due("JAMMED", 513, mesh.most(8));
        mesh.jam(0);
        CHECK.due("JAMMED", 512, mesh.most(8));
    }

    /** By these HOPS the CHANNEL of a CELL is its SLOT in each FRAME, so one CELL alone can be JAMMED. */
    private static void mostBad() {
        HoppingMesh mesh = Check.mesh("sw4c1u0;pa2b3l0;pa0b1l3");
        Check.tell(mesh, "0123", 1);
        mesh.deal(1, 0, 3);
        mesh.frames(2);
        mesh.jam(1);
        mesh.frames(2);
        CHECK.due("SENT 3", 3, mesh.cell(1, 0, 1, 1));
        CHECK.due("not yet", NONE, mesh.most(9));
        mesh.frames(1);
        CHECK.due("SENT 4, GOT 1 by the best 4", 10, mesh.most(9));
        mesh.jam(1);
        mesh.frames(1);
        CHECK.due("2 of 5 by 5 of 5", 10, mesh.most(9));
        mesh.frames(1);
        CHECK.due("half is not less than half", NONE, mesh.most(9));
        mesh.jam(0);
        mesh.jam(1);
        mesh.frames(7);
        CHECK.due("GOT", 6, mesh.cell(1, 0, 0, 2));
        CHECK.due("GOT", 3, mesh.cell(1, 0, 1, 2));
        CHECK.due("GOT", 13, mesh.cell(1, 0, 2, 2));
        CHECK.due("the least of two", 10, mesh.most(9));
        HoppingMesh first = Check.mesh("sw4c1u0;pa0b1l3");
        Check.tell(first, "0123", 1);
        first.jam(0);
        first.jam(1);
        first.deal(0, 0, 3);
        first.frames(5);
        CHECK.due("of several the first", 0, first.most(9));
    }

    private static void image() {
        HoppingMesh mesh = new HoppingMesh();
        CHECK.due("no MESH", NONE, mesh.image());
        CHECK.due("no IMAGE", NONE, mesh.back());
        Check.tell(mesh, "su0;p", 0);
        CHECK.due("no IMAGE", NONE, mesh.back());
        mesh.frames(3);
        CHECK.due("the FRAME", 3, mesh.image());
        CHECK.due("no ACT", 3, mesh.count(6));
        mesh.frames(4);
        CHECK.due("BACK", 3, mesh.back());
        CHECK.due("the FRAME", 3, mesh.count(3));
        CHECK.due("no ACT can be UNDONE", NONE, mesh.undo());
        CHECK.due("no ACT can be UNDONE", 0, mesh.count(6));
        mesh.frames(2);
        CHECK.due("BACK again", 3, mesh.back());
        mesh.frames(2);
        CHECK.due("UNDONE anew", 1, mesh.undo());
        CHECK.due("instead of the one ahead", 4, mesh.image());
        mesh.undo();
        CHECK.due("undo leaves it", 4, mesh.back());
        Check.tell(mesh, "12", 1);
        CHECK.due("HOPS leave it", 4, mesh.back());
        Check.tell(mesh, "su0;p", 0);
        CHECK.due("no IMAGE of this MESH", NONE, mesh.back());
        CHECK.due("the FRAME", 0, mesh.count(3));
    }

    private static void imageKeepsAll() {
        HoppingMesh mesh = Check.mesh("su0;pl2;pa2b3k3");
        mesh.deal(0, 0, 2);
        mesh.frames(3);
        mesh.deal(1, 0, 2);
        mesh.frames(1);
        mesh.jam(4);
        mesh.deal(0, 2, 0);
        int[] before = all(mesh);
        mesh.image();
        mesh.loss(8);
        mesh.lose(0);
        mesh.load(0, 9);
        mesh.jam(4);
        mesh.jam(5);
        mesh.auto();
        mesh.frames(9);
        mesh.years(9, 77);
        CHECK.due("BACK", 4, mesh.back());
        int[] after = all(mesh);
        for (int i = 0; i < before.length; i++) {
            CHECK.due("word " + i + " of all", before[i], after[i]);
        }
        CHECK.due("LOSS is not of it", 8, mesh.count(4));
        mesh.frames(2);
        CHECK.due("the LETTER goes on", 20, mesh.cell(0, 0, 1, 0));
    }

    private static int[] all(HoppingMesh mesh) {
        int[] words = new int[300];
        int at = 0;
        for (int p = 0; p < 2; p++) {
            for (int what = 0; what <= 12; what++) {
                words[at++] = what <= 10 ? mesh.pair(p, what) : 0;
                words[at++] = mesh.letter(p, what);
            }
            for (int side = 0; side < 2; side++) {
                for (int what = 0; what < 3; what++) {
                    words[at++] = mesh.waits(p, side, what);
                    for (int i = 0; i < 6; i++) {
                        words[at++] = mesh.cell(p, side, i, what);
                    }
                }
            }
        }
        for (int node = 0; node < 4; node++) {
            words[at++] = mesh.node(node, 0);
        }
        words[at++] = mesh.rule(4);
        words[at++] = mesh.most(8);
        words[at++] = mesh.count(3);
        words[at++] = mesh.count(5);
        for (int i = 0; i < 5; i++) {
            for (int what = 0; what < 3; what++) {
                words[at++] = mesh.log(i, what);
            }
        }
        return words;
    }

    /** LOADS of 0 and 1 leave a mark in each FRAME of the LOG. */
    private static void imageKeepsTheLog() {
        HoppingMesh mesh = Check.mesh("su0;pl0");
        mesh.deal(0, 0, 1);
        mesh.frames(40);
        mesh.load(0, 1);
        mesh.frames(30);
        mesh.image();
        mesh.load(0, 0);
        mesh.frames(40);
        CHECK.due("LOG", 0, mesh.log(0, 2));
        mesh.back();
        CHECK.due("LOG", 60, mesh.count(5));
        for (int i = 0; i < 60; i++) {
            CHECK.due("log(" + i + ", 2)", i < 30 ? 1 : 0, mesh.log(i, 2));
        }
        mesh.frames(5);
        mesh.load(0, 0);
        mesh.frames(1);
        CHECK.due("LOG goes on", 0, mesh.log(0, 2));
        CHECK.due("LOG goes on", 1, mesh.log(35, 2));
        CHECK.due("LOG goes on", 0, mesh.log(36, 2));
        for (int i = 0; i < 7; i++) {
            mesh.undo();
        }
        CHECK.due("as the IMAGE", 60, mesh.count(5));
        CHECK.due("as the IMAGE", 1, mesh.log(29, 2));
        CHECK.due("as the IMAGE", 0, mesh.log(30, 2));
        CHECK.due("as the IMAGE", 0, mesh.log(59, 2));
        CHECK.due("as the IMAGE", NONE, mesh.log(60, 2));
    }

    private static void count() {
        HoppingMesh mesh = Check.mesh("su0;pb1;pb2;pb3;pb4;pb5;pa1b0");
        Check.tell(mesh, "1234567", 1);
        Check.feed(mesh, "abc");
        mesh.loss(4);
        mesh.frames(9);
        mesh.jam(1);
        int[] due = {6, 7, 3, 9, 4, 9, 10};
        for (int what = 0; what < due.length; what++) {
            CHECK.due("count(" + what + ")", due[what], mesh.count(what));
        }
        CHECK.due("count(7)", HIDDEN, mesh.count(7));
        CHECK.due("count(-1)", HIDDEN, mesh.count(-1));
    }
}
