/** Promises 1 to 5: a new object, feed, end, fault, text. */
public final class TextTest {
    private static final Check CHECK = new Check();
    private static final int NONE = HoppingMesh.NONE;
    private static final int HIDDEN = HoppingMesh.HIDDEN;

    public static void main(String[] args) {
        aNewObject();
        feed();
        end();
        faultOfClauses();
        faultOfNumbers();
        faultOfPairs();
        faultOfHops();
        textOfMesh();
        textOfHops();
        textThatKeeps();
        CHECK.end("TextTest");
    }

    private static void aNewObject() {
        HoppingMesh mesh = new HoppingMesh();
        int[] counts = {0, 0, 0, 0, 2, 0, 0, HIDDEN};
        for (int what = 0; what < counts.length; what++) {
            CHECK.due("new: count(" + what + ")", counts[what], mesh.count(what));
        }
        CHECK.due("new: rule(0)", NONE, mesh.rule(0));
        CHECK.due("new: most(8)", HIDDEN, mesh.most(8));
        CHECK.throwsNoSuchElement(mesh, 0, 0);
        for (int what = 0; what < 5; what++) {
            CHECK.due("new: status(" + what + ")", 0, mesh.status(what));
        }
    }

    private static void feed() {
        HoppingMesh mesh = new HoppingMesh();
        CHECK.due("nothing", 0, mesh.feed(0, 0, 0, 0, 0));
        CHECK.due("zeros are left out", 5, mesh.feed('p', 'a' << 8, '0' << 16, 'b' << 24, 0x00310000));
        CHECK.due("the highest first", NONE, mesh.fault(0));
        CHECK.due("text", 1, mesh.text(0));
        CHECK.due("negative numbers are bytes too", 4, mesh.feed(-1, 0, 0, 0, 0));
        CHECK.due("a byte of 255", 0, mesh.fault(0));
        CHECK.due("end", true, mesh.end(0));
        for (int i = 1; i <= 11; i++) {
            CHECK.due("full words", 20 * i, mesh.feed(0x20202020, 0x20202020, 0x20202020, 0x20202020, 0x20202020));
        }
        CHECK.due("19 more", 239, mesh.feed(0x20202020, 0x20202020, 0x20202020, 0x20202020, 0x202020));
        CHECK.due("two more than room", NONE, mesh.feed(0x2020, 0, 0, 0, 0));
        CHECK.due("refused", 239, mesh.count(2));
        CHECK.due("the last one", 240, mesh.feed(0, 0, 0, 0, 'p'));
        CHECK.due("one too many", NONE, mesh.feed(0, 0, 0, 0, 'p'));
        for (int i = 0; i < 5; i++) {
            int[] w = new int[5];
            w[i] = 0x01000000;
            CHECK.due("one too many", NONE, mesh.feed(w[0], w[1], w[2], w[3], w[4]));
        }
        CHECK.due("none more", 240, mesh.feed(0, 0, 0, 0, 0));
        CHECK.due("240 bytes", NONE, mesh.fault(0));
        CHECK.due("text of 240 bytes", 1, mesh.text(0));
    }

    private static void end() {
        HoppingMesh mesh = new HoppingMesh();
        CHECK.due("end(0)", true, mesh.end(0));
        CHECK.due("end(1)", false, mesh.end(1));
        Check.feed(mesh, "p;sx");
        CHECK.due("end(-1)", false, mesh.end(-1));
        CHECK.due("end(5)", false, mesh.end(5));
        CHECK.due("count", 4, mesh.count(2));
        CHECK.due("end(4)", true, mesh.end(4));
        CHECK.due("end(3)", true, mesh.end(3));
        CHECK.due("fault", NONE, mesh.fault(0));
        CHECK.due("goes on behind", 4, Check.feed(mesh, "w"));
        CHECK.due("fault", 4, mesh.fault(0));
    }

    private static void fault(int sort, int want, String text) {
        HoppingMesh mesh = new HoppingMesh();
        Check.feed(mesh, text);
        CHECK.due("fault(" + sort + ") of " + text, want, mesh.fault(sort));
        CHECK.due("the TAPE stays", text.length(), mesh.count(2));
        CHECK.due("fault(2)", -2, mesh.fault(2));
        CHECK.due("fault(-1)", -2, mesh.fault(-1));
    }

    private static void faultOfClauses() {
        fault(0, 0, "");
        fault(0, 1, " ");
        fault(0, NONE, "p");
        fault(0, NONE, "  p  ");
        fault(0, NONE, "s;p");
        fault(0, NONE, "p;s");
        fault(0, NONE, "p ; s ; p a 1 b 0");
        fault(0, 1, "s");
        fault(0, 0, ";p");
        fault(0, 2, "p;");
        fault(0, 4, "p;  ");
        fault(0, 2, "p;;p");
        fault(0, 2, "s;s");
        fault(0, 4, "p;s;s");
        fault(0, 4, "s;p;s;p");
        fault(0, 0, "P");
        fault(0, 0, "w4");
        fault(0, 1, "p\t");
        fault(0, 1, "p" + (char) 233);
        fault(0, 1, "p,p");
        fault(0, NONE, "s;pb1;pb2;pb3;pb4;pb5;pa1b0");
        fault(0, 28, "s;pb1;pb2;pb3;pb4;pb5;pa1b0;");
        fault(0, 28, "s;pb1;pb2;pb3;pb4;pb5;pa1b0;pa1b2");
        fault(0, 28, "s;pb1;pb2;pb3;pb4;pb5;pa1b0;s");
        fault(0, NONE, "pb1;pb2;pb3;pb4;pb5;pa1b0;s");
        fault(0, 26, "pb1;pb2;pb3;pb4;pb5;pa1b0;p;s");
    }

    private static void faultOfNumbers() {
        String[] letters = {"w", "c", "t", "m", "u"};
        int[] least = {4, 1, 2, 2, 0};
        int[] most = {16, 4, 9, 9, 1};
        for (int i = 0; i < letters.length; i++) {
            String start = "p;s" + letters[i];
            fault(0, NONE, start + least[i]);
            fault(0, NONE, start + most[i]);
            fault(0, NONE, start + "0" + least[i]);
            fault(0, start.length() + (most[i] > 8 ? 1 : 0), start + (most[i] + 1));
            if (least[i] > 0) {
                fault(0, start.length(), start + (least[i] - 1));
                fault(0, start.length() + 1, start + "0" + (least[i] - 1));
            }
            fault(0, start.length() + 2, start + "00" + least[i]);
            fault(0, start.length() + 2, start + "993");
            fault(0, start.length(), start);
            fault(0, start.length(), start + ";p");
            fault(0, start.length() + 1, start + least[i] + letters[i] + most[i]);
        }
        fault(0, 2, "sw1");
        fault(0, 2, "sw1;p");
        fault(0, 3, "sw 1 6;p");
        fault(0, 4, "sw4 4;p");
        fault(0, 3, "sw17");
        fault(0, 4, "sw100");
        fault(0, 3, "sw4w5;p");
        fault(0, 12, "sw4c2t3m4u1 w4;p");
        fault(0, 11, "sw4c2t3m4u1u1");
        fault(0, 1, "sx1;p");
        fault(0, 1, "sa1;p");
        fault(0, NONE, "su0m2t9c1w12;p");
    }

    private static void faultOfPairs() {
        fault(0, 2, "pa6");
        fault(0, NONE, "pa5");
        fault(0, 2, "pb6");
        fault(0, NONE, "pb5");
        fault(0, 2, "pk1");
        fault(0, NONE, "pk2");
        fault(0, NONE, "pk3");
        fault(0, 2, "pk4");
        fault(0, NONE, "pl0");
        fault(0, NONE, "pl9");
        fault(0, 3, "pl10");
        fault(0, 4, "pl001");
        fault(0, 3, "pl1l1");
        fault(0, 1, "pw4");
        fault(0, 9, "pa2b3k2l1x");
        fault(0, 9, "pa2b3k2l1a2");
        fault(0, 3, "pa1");
        fault(0, 3, "pb0");
        fault(0, 5, "pa0b0");
        fault(0, 6, "pa5b5 ");
        fault(0, NONE, "pa1b0");
        fault(0, 3, "p;p");
        fault(0, NONE, "p;pa1b0");
        fault(0, 11, "pa2b3;pb3a2");
        fault(0, 7, "pa1;p;s");
        fault(0, 5, "pa1;px");
        fault(0, 4, "p;p;x");
        fault(0, 12, "p;p;p;p;p;p;p");
        fault(0, 11, "p;p;p;p;p;p");
    }

    private static void faultOfHops() {
        fault(1, 0, "");
        fault(1, 2, "  ");
        fault(1, NONE, "7");
        fault(1, NONE, " 7 0 ");
        fault(1, NONE, "0123456789012345");
        fault(1, NONE, "01 23456789012345 ");
        fault(1, 16, "01234567890123456");
        fault(1, 17, "0123456789012345 6");
        fault(1, 1, "1;2");
        fault(1, 0, "p");
        fault(1, 17, "0123456789012345 x");
        fault(1, 3, "1 2-");
    }

    private static void textOfMesh() {
        HoppingMesh mesh = new HoppingMesh();
        CHECK.due("text of nothing", NONE, mesh.text(0));
        Check.feed(mesh, "sw5;pl3;pa2b0k3");
        CHECK.due("text(2)", NONE, mesh.text(2));
        CHECK.due("text(-1)", NONE, mesh.text(-1));
        CHECK.due("text(1)", NONE, mesh.text(1));
        CHECK.due("refused: the TAPE stays", 15, mesh.count(2));
        CHECK.due("text(0)", 2, mesh.text(0));
        CHECK.due("the TAPE is empty", 0, mesh.count(2));
        CHECK.due("PAIRS", 2, mesh.count(0));
        int[] first = {0, 1, 2, 3};
        int[] second = {2, 0, 3, 1};
        for (int what = 0; what < 4; what++) {
            CHECK.due("pair(0, " + what + ")", first[what], mesh.pair(0, what));
            CHECK.due("pair(1, " + what + ")", second[what], mesh.pair(1, what));
        }
        Check.feed(mesh, "p;p");
        CHECK.due("a FAULT", NONE, mesh.text(0));
        CHECK.due("the MESH stays", 2, mesh.count(0));
        CHECK.due("the TAPE stays", 3, mesh.count(2));
    }

    private static void textOfHops() {
        HoppingMesh mesh = new HoppingMesh();
        Check.feed(mesh, "1 2 3");
        CHECK.due("HOPS without a MESH", 3, mesh.text(1));
        CHECK.due("HOPS", 3, mesh.count(1));
        CHECK.due("the TAPE is empty", 0, mesh.count(2));
        Check.feed(mesh, "9x");
        CHECK.due("a FAULT", NONE, mesh.text(1));
        CHECK.due("HOPS stay", 3, mesh.count(1));
        mesh.end(0);
        Check.tell(mesh, "p", 0);
        CHECK.due("channel", 1, mesh.channel(0, 0));
        Check.feed(mesh, "45");
        CHECK.due("told anew", 2, mesh.text(1));
        CHECK.due("the later ones", 4, mesh.channel(0, 0));
        CHECK.due("the later ones", 2, mesh.count(1));
    }

    private static void textThatKeeps() {
        HoppingMesh mesh = Check.mesh("su0;pl5;pa3b4");
        Check.tell(mesh, "77", 1);
        mesh.loss(7);
        mesh.load(9, 1);
        mesh.jam(3);
        mesh.deal(0, 0, 3);
        mesh.frames(5);
        mesh.auto();
        mesh.image();
        Check.tell(mesh, "pa1b0", 0);
        CHECK.due("FRAME 0", 0, mesh.count(3));
        CHECK.due("HOPS stay", 2, mesh.count(1));
        CHECK.due("LOSS stays", 7, mesh.count(4));
        CHECK.due("STATUS stays", 1, mesh.status(0));
        CHECK.due("no LOG", 0, mesh.count(5));
        CHECK.due("no LOG", NONE, mesh.log(0, 0));
        CHECK.due("no ACTS", 0, mesh.count(6));
        CHECK.due("no ACTS", NONE, mesh.undo());
        CHECK.due("no IMAGE of this MESH", NONE, mesh.back());
        CHECK.due("none JAMMED", 0, mesh.most(8));
        CHECK.due("AUTO as told", 1, mesh.rule(4));
        int[] due = {1, 0, 2, 1, 0, 0, 0, 0, 0, 0, 0};
        for (int what = 0; what < due.length; what++) {
            CHECK.due("pair(0, " + what + ")", due[what], mesh.pair(0, what));
        }
        CHECK.due("no LETTER", 0, mesh.most(3));
        CHECK.due("none TAKEN", 0, mesh.node(0, 0));
        CHECK.throwsNoSuchElement(mesh, 1, 0);
    }
}
