/** Promises 13 to 22: frames, deal, lose, jam, load, auto, years, status, undo, log; and what goes on in a FRAME. */
public final class ActTest {
    private static final Check CHECK = new Check();
    private static final int NONE = HoppingMesh.NONE;

    public static void main(String[] args) {
        frames();
        lastFrame();
        deal();
        dealThatCannotBegin();
        moveBehindTheLastSlot();
        slotsOfTwoDigits();
        answersOfNo();
        threeStepsWithoutOffers();
        promisesOfBothWays();
        lostRequest();
        lostAnswerIsHealed();
        lostConfirm();
        receiverThatWaits();
        lostClear();
        lose();
        jam();
        load();
        auto();
        autoFollowsLoad();
        autoAtTheBounds();
        autoMovesBadCells();
        countsMoveWithTheirCells();
        collisions();
        countsEnd();
        years();
        yearsRefused();
        status();
        undo();
        undoOfEach();
        log();
        CHECK.end("ActTest");
    }

    private static void table(String name, HoppingMesh mesh, int pair, int side, int... cells) {
        for (int i = 0; i <= cells.length; i++) {
            CHECK.due(name + ": cell(" + pair + ", " + side + ", " + i + ", 0)", i < cells.length ? cells[i] : NONE,
                    mesh.cell(pair, side, i, 0));
        }
    }

    private static void frames() {
        HoppingMesh mesh = new HoppingMesh();
        CHECK.due("no MESH", NONE, mesh.frames(0));
        Check.tell(mesh, "p", 0);
        CHECK.due("frames(0)", NONE, mesh.frames(0));
        CHECK.due("frames(41)", NONE, mesh.frames(41));
        CHECK.due("frames(min)", NONE, mesh.frames(Integer.MIN_VALUE));
        CHECK.due("frames(max)", NONE, mesh.frames(Integer.MAX_VALUE));
        CHECK.status(mesh, 1, 4, 0, 0, 0);
        CHECK.due("refused", 0, mesh.count(3));
        CHECK.due("frames(1)", 1, mesh.frames(1));
        CHECK.due("frames(40)", 41, mesh.frames(40));
        CHECK.due("ACTS", 40, mesh.count(6));
        CHECK.due("QUEUE at 99", NONE, Check.mesh("su0;pl9").frames(50));
    }

    private static void lastFrame() {
        HoppingMesh mesh = Check.mesh("su0;pl0");
        for (int i = 0; i < 249; i++) {
            mesh.frames(40);
        }
        CHECK.due("FRAME", 9960, mesh.count(3));
        CHECK.due("one too many", NONE, mesh.frames(40));
        CHECK.due("one too many", NONE, mesh.years(40, 1));
        CHECK.status(mesh, 0, 0, 0, 0, 1);
        CHECK.due("FRAME", 9960, mesh.count(3));
        CHECK.due("years(39)", 9999, mesh.years(39, 1));
        CHECK.due("undo", 39, mesh.undo());
        CHECK.due("years(1)", 9999, mesh.years(1, 1));
        for (int i = 0; i < 9; i++) {
            mesh.undo();
        }
        CHECK.due("frames(10)", NONE, mesh.frames(10));
        CHECK.due("frames(9)", 9999, mesh.frames(9));
        CHECK.due("none goes by then", NONE, mesh.frames(1));
        CHECK.due("none goes by then", NONE, mesh.years(1, 1));
        CHECK.due("out of bounds is first", NONE, mesh.frames(0));
        CHECK.status(mesh, 0, 1, 0, 0, 3);
        mesh.load(0, 1);
        CHECK.due("apart FRAMES go on", 60, mesh.comes(0, 60, 1));
    }

    private static void deal() {
        HoppingMesh mesh = new HoppingMesh();
        CHECK.due("no MESH", NONE, mesh.deal(0, 0, 1));
        Check.tell(mesh, "su0;p", 0);
        CHECK.due("no such PAIR", NONE, mesh.deal(1, 9, 1));
        CHECK.due("no such PAIR", NONE, mesh.deal(-1, 0, 1));
        CHECK.status(mesh, 3, 0, 0, 0, 0);
        int[][] wrong = {{-1, 1}, {4, 0}, {0, 0}, {0, 4}, {1, 0}, {1, 4}, {2, -1}, {2, 6}, {3, 1}, {3, -1}};
        for (int[] kind : wrong) {
            CHECK.due("deal(0, " + kind[0] + ", " + kind[1] + ")", NONE, mesh.deal(0, kind[0], kind[1]));
        }
        CHECK.status(mesh, 3, wrong.length, 0, 0, 0);
        CHECK.due("no such CELL", NONE, mesh.deal(0, 2, 0));
        CHECK.due("no such CELL", NONE, mesh.deal(0, 2, 5));
        CHECK.status(mesh, 3, wrong.length, 2, 0, 0);
        CHECK.due("nothing to DELETE", NONE, mesh.deal(0, 1, 1));
        CHECK.status(mesh, 3, wrong.length, 2, 1, 0);
        CHECK.due("no ACT", 0, mesh.count(6));
        CHECK.due("CLEAR", 0, mesh.deal(0, 3, 0));
        CHECK.due("it WAITS", NONE, mesh.deal(0, 3, 0));
        CHECK.status(mesh, 3, wrong.length, 2, 2, 0);
        mesh.frames(2);
        CHECK.due("ADD 1", 2, mesh.deal(0, 0, 1));
        mesh.frames(2);
        table("ADD 1", mesh, 0, 0, 0);
        table("ADD 1", mesh, 0, 1, 0);
        CHECK.due("ADD 3", 4, mesh.deal(0, 0, 3));
        mesh.frames(2);
        table("ADD 3", mesh, 0, 0, 0, 11, 20, 31);
        CHECK.due("MOVE", 3, mesh.deal(0, 2, 0));
        mesh.frames(2);
        table("MOVE", mesh, 0, 0, 11, 20, 31, 40);
        CHECK.due("DELETE", 2, mesh.deal(0, 1, 2));
        mesh.frames(2);
        table("DELETE", mesh, 0, 0, 11, 20);
        table("DELETE", mesh, 0, 1, 11, 20);
        CHECK.due("SEQ", 4, mesh.pair(0, 7));
        CHECK.due("SEQ", 4, mesh.pair(0, 8));
        CHECK.due("CLEAR", 0, mesh.deal(0, 3, 0));
        mesh.frames(1);
        table("CLEAR", mesh, 0, 0, 11, 20);
        table("CLEAR", mesh, 0, 1);
        mesh.frames(1);
        table("CLEAR", mesh, 0, 0);
        CHECK.due("SEQ 0", 0, mesh.pair(0, 7));
        CHECK.due("SEQ 0", 0, mesh.pair(0, 8));
    }

    private static void dealThatCannotBegin() {
        HoppingMesh mesh = Check.mesh("sw4u0;p;pa0b2k3");
        CHECK.due("ADD 3 of four SLOTS", 4, mesh.deal(0, 0, 3));
        CHECK.due("a LETTER is under way", NONE, mesh.deal(0, 0, 1));
        CHECK.due("all PROMISED, 3 STEPS", 0, mesh.deal(1, 0, 1));
        mesh.lose(1);
        CHECK.due("it WAITS", NONE, mesh.deal(1, 3, 0));
        mesh.frames(2);
        CHECK.due("ADD 3 of one SLOT", 1, mesh.deal(0, 0, 3));
        mesh.frames(2);
        table("all SLOTS", mesh, 0, 0, 0, 11, 20, 31);
        CHECK.due("no OFFERS: ADD", NONE, mesh.deal(0, 0, 1));
        CHECK.due("no OFFERS: MOVE", NONE, mesh.deal(0, 2, 0));
        CHECK.status(mesh, 0, 0, 0, 4, 0);
        CHECK.due("3 STEPS begin without OFFERS", 0, mesh.deal(1, 0, 1));
        CHECK.due("DELETE", 3, mesh.deal(0, 1, 3));
    }

    private static void moveBehindTheLastSlot() {
        HoppingMesh mesh = Check.mesh("sw4u0;p");
        mesh.deal(0, 0, 3);
        mesh.frames(2);
        mesh.deal(0, 2, 0);
        CHECK.due("one OFFER", 31, mesh.letter(0, 7));
        CHECK.due("one OFFER", 2, mesh.letter(0, 5));
        mesh.frames(2);
        table("moved", mesh, 0, 0, 11, 20, 31);
        CHECK.due("from SLOT 0 on", 2, mesh.deal(0, 2, 2));
        CHECK.due("from SLOT 0 on", 0, mesh.letter(0, 7));
        mesh.frames(2);
        mesh.deal(0, 1, 1);
        mesh.frames(2);
        table("before", mesh, 0, 0, 0, 11);
        CHECK.due("two OFFERS", 3, mesh.deal(0, 2, 1));
        CHECK.due("behind that SLOT", 20, mesh.letter(0, 7));
        CHECK.due("behind that SLOT", 31, mesh.letter(0, 8));
    }

    private static void slotsOfTwoDigits() {
        HoppingMesh mesh = Check.mesh("sw16c4u0;pa0b1;pa0b2;pa0b3;pa3b1");
        for (int p = 0; p < 3; p++) {
            for (int i = 0; i < 2; i++) {
                CHECK.due("ADD 3", 4, mesh.deal(p, 0, 3));
                mesh.frames(2);
                if (p == 2) {
                    break;
                }
            }
        }
        table("PAIR 0", mesh, 0, 0, 0, 11, 22, 33, 40, 51);
        table("PAIR 1", mesh, 1, 0, 63, 70, 81, 92, 103, 110);
        table("PAIR 2", mesh, 2, 1, 122, 133, 140);
        CHECK.due("one is FREE", 1 << 15, mesh.node(0, 0) ^ 65535);
        CHECK.due("TAKEN", 7 << 12, mesh.node(3, 0));
        mesh.deal(2, 2, 0);
        CHECK.due("the last SLOT", 151, mesh.letter(2, 7));
        CHECK.due("alone", 2, mesh.letter(2, 5));
        mesh.frames(2);
        table("PAIR 2", mesh, 2, 1, 133, 140, 151);
        mesh.deal(3, 0, 3);
        CHECK.due("none of its own", 3, mesh.letter(3, 6));
        mesh.frames(1);
        CHECK.due("FREE at NODE 1 are 6 and more", 1, mesh.letter(3, 2));
        mesh.frames(1);
        CHECK.due("LOG", 15, mesh.log(0, 1));
        CHECK.due("GOT in SLOT 12 and behind", 3, mesh.comes(2, 3, 0));
        mesh.deal(2, 2, 1);
        mesh.deal(0, 1, 3);
        mesh.frames(2);
        table("PAIR 2", mesh, 2, 0, 122, 133, 151);
        CHECK.due("FREE", 7 << 3 | 1 << 14, mesh.node(0, 0) ^ 65535);
        mesh.deal(2, 2, 2);
        CHECK.due("behind the last SLOT from 0 on", 31, mesh.letter(2, 7));
        CHECK.due("behind the last SLOT from 0 on", 42, mesh.letter(2, 8));
    }

    private static void threeStepsWithoutOffers() {
        HoppingMesh mesh = Check.mesh("sw4u0;pa0b1;pa2b1k3");
        mesh.deal(0, 0, 3);
        mesh.frames(2);
        mesh.deal(1, 0, 3);
        mesh.frames(1);
        CHECK.due("one OFFER", 0, mesh.letter(1, 2));
        CHECK.due("one OFFER", 1, mesh.letter(1, 5));
        CHECK.due("RECEIVER WAITS", 1, mesh.waits(1, 1, 0));
        mesh.frames(2);
        CHECK.due("SEQ", 1, mesh.pair(1, 8));
        mesh.deal(1, 0, 1);
        mesh.frames(1);
        CHECK.due("no OFFER: NO", 1, mesh.letter(1, 2));
        CHECK.due("no OFFER: an answer", 1, mesh.letter(1, 0));
        CHECK.due("RECEIVER does not WAIT", 0, mesh.waits(1, 1, 0));
        mesh.frames(1);
        CHECK.due("nothing", 0, mesh.most(3) + mesh.most(1));
        CHECK.due("SEQ", 1, mesh.pair(1, 7));
    }

    private static void answersOfNo() {
        HoppingMesh mesh = Check.mesh("sw4u0;p;pa2b1;pa2b3k3");
        mesh.deal(0, 0, 3);
        mesh.frames(2);
        CHECK.due("pair 1 ADD 3", 4, mesh.deal(1, 0, 3));
        mesh.frames(1);
        CHECK.due("one SLOT is FREE", 1, mesh.letter(1, 5));
        CHECK.due("one SLOT is FREE", 30, mesh.letter(1, 6));
        mesh.frames(1);
        mesh.deal(1, 0, 1);
        mesh.frames(1);
        CHECK.due("NO", 1, mesh.letter(1, 2));
        CHECK.due("NO", 0, mesh.letter(1, 5));
        CHECK.due("NO", 1, mesh.pair(1, 8));
        mesh.frames(1);
        CHECK.due("NO: not PROMISED", 8, mesh.node(2, 0));
        mesh.deal(1, 2, 0);
        mesh.frames(1);
        CHECK.due("NO MOVE", 1, mesh.letter(1, 2));
        mesh.frames(1);
        table("NO MOVE", mesh, 1, 0, 30);
        CHECK.due("AGREE", 1, mesh.agree(1));
        mesh.deal(2, 0, 3);
        mesh.frames(1);
        CHECK.due("OFFERS of the RECEIVER", 4, mesh.letter(2, 5));
        mesh.frames(1);
        CHECK.due("those FREE at the SENDER", 3, mesh.letter(2, 5));
        mesh.frames(1);
        table("3 STEPS", mesh, 2, 1, 0, 11, 20);
        CHECK.due("DOUBLE", 0, mesh.node(2, 1));
    }

    /** Each NODE is SENDER of one PAIR and RECEIVER of the other: what it has PROMISED is not FREE at it. */
    private static void promisesOfBothWays() {
        HoppingMesh mesh = Check.mesh("su0;p;pa1b0");
        mesh.deal(0, 0, 2);
        mesh.deal(1, 0, 1);
        mesh.frames(1);
        CHECK.due("one is FREE", 1, mesh.letter(0, 5));
        CHECK.due("one is FREE", 20, mesh.letter(0, 6));
        CHECK.due("NO", 1, mesh.letter(1, 2));
        CHECK.due("TAKEN", 7, mesh.node(0, 0));
        CHECK.due("TAKEN", 7, mesh.node(1, 0));
        mesh.frames(1);
        CHECK.due("TAKEN", 4, mesh.node(0, 0));
        CHECK.due("TAKEN", 4, mesh.node(1, 0));
        mesh.deal(1, 0, 2);
        CHECK.due("OFFERS around it", 1, mesh.letter(1, 6));
        CHECK.due("OFFERS around it", 10, mesh.letter(1, 7));
        CHECK.due("OFFERS around it", 30, mesh.letter(1, 8));
        mesh.frames(2);
        table("PAIR 1", mesh, 1, 0, 1, 10);
    }

    private static void lostRequest() {
        HoppingMesh mesh = Check.mesh("su0t2;p");
        mesh.frames(5);
        mesh.deal(0, 0, 2);
        mesh.lose(0);
        mesh.frames(2);
        CHECK.due("it WAITS", 1, mesh.waits(0, 0, 0));
        CHECK.due("it has PROMISED", 7, mesh.node(0, 0));
        CHECK.due("can't be begun", NONE, mesh.deal(0, 0, 1));
        mesh.frames(1);
        CHECK.due("TIMEOUT", 0, mesh.waits(0, 0, 0));
        CHECK.due("TIMEOUT", NONE, mesh.waits(0, 0, 1));
        CHECK.due("TIMEOUT", 0, mesh.node(0, 0));
        CHECK.due("AGREE", 1, mesh.agree(0));
        CHECK.due("begun anew", 2, mesh.deal(0, 0, 1));
    }

    private static void lostAnswerIsHealed() {
        HoppingMesh mesh = Check.mesh("su0;p");
        mesh.deal(0, 0, 1);
        mesh.frames(1);
        CHECK.due("the answer", 1, mesh.lose(0));
        mesh.frames(3);
        CHECK.due("TIMEOUT", 0, mesh.waits(0, 0, 0));
        CHECK.due("at odds", 0, mesh.agree(0));
        mesh.deal(0, 0, 1);
        CHECK.due("heals in 3 FRAMES", 3, mesh.healed());
        mesh.frames(1);
        CHECK.due("ODD", 2, mesh.letter(0, 2));
        table("ODD changes nothing", mesh, 0, 1, 0);
        mesh.frames(1);
        CHECK.due("CLEAR", 3, mesh.letter(0, 1));
        CHECK.due("it WAITS from then on", 5, mesh.waits(0, 0, 1));
        CHECK.due("nothing PROMISED", 0, mesh.waits(0, 0, 2));
        mesh.frames(1);
        CHECK.due("AGREE", 1, mesh.agree(0));
        mesh.frames(1);
        CHECK.due("does not WAIT", 0, mesh.waits(0, 0, 0));
    }

    private static void lostConfirm() {
        HoppingMesh mesh = Check.mesh("su0;pk3");
        mesh.deal(0, 0, 1);
        mesh.frames(2);
        CHECK.due("CONFIRM", 2, mesh.lose(0));
        mesh.frames(1);
        CHECK.due("RECEIVER WAITS", 1, mesh.waits(0, 1, 0));
        mesh.frames(1);
        CHECK.due("TIMEOUT", 0, mesh.waits(0, 1, 0));
        CHECK.due("TIMEOUT", 0, mesh.node(1, 0));
        table("SENDER", mesh, 0, 0, 0);
        table("RECEIVER", mesh, 0, 1);
        CHECK.due("at odds", 1, mesh.most(4));
        mesh.frames(1);
        CHECK.due("SENT", 4, mesh.cell(0, 0, 0, 1));
        CHECK.due("not GOT", 0, mesh.cell(0, 0, 0, 2));
    }

    private static void receiverThatWaits() {
        HoppingMesh mesh = Check.mesh("su0t2;pk3");
        mesh.deal(0, 0, 3);
        mesh.frames(1);
        mesh.lose(0);
        mesh.undo();
        mesh.frames(1);
        mesh.lose(0);
        CHECK.due("RECEIVER WAITS", 4, mesh.waits(0, 1, 2));
        CHECK.due("SENDER does not WAIT", 0, mesh.waits(0, 0, 0));
        mesh.deal(0, 1, 1);
        mesh.frames(1);
        CHECK.due("ODD, as the SENDER is ahead", 2, mesh.letter(0, 2));
        CHECK.due("RECEIVER does not WAIT", 0, mesh.waits(0, 1, 0));
        CHECK.due("nothing PROMISED", 0, mesh.waits(0, 1, 2));
        mesh.frames(3);
        CHECK.due("AGREE", 1, mesh.agree(0));
        mesh.deal(0, 0, 1);
        mesh.frames(2);
        CHECK.due("CONFIRM under way: no TIMEOUT", 1, mesh.waits(0, 1, 0));
        CHECK.due("CONFIRM", 2, mesh.letter(0, 0));
    }

    private static void lostClear() {
        HoppingMesh mesh = Check.mesh("su0t2;p");
        mesh.deal(0, 0, 2);
        mesh.frames(2);
        mesh.deal(0, 3, 0);
        mesh.lose(0);
        mesh.frames(2);
        CHECK.due("it WAITS", 1, mesh.waits(0, 0, 0));
        table("SENDER", mesh, 0, 0, 0, 11);
        mesh.frames(1);
        table("TIMEOUT of a CLEAR", mesh, 0, 0);
        table("RECEIVER", mesh, 0, 1, 0, 11);
        CHECK.due("SEQ", 0, mesh.pair(0, 7));
        CHECK.due("SEQ", 1, mesh.pair(0, 8));
        mesh.deal(0, 0, 1);
        CHECK.due("ODD and CLEAR heal", 3, mesh.healed());
    }

    private static void lose() {
        HoppingMesh mesh = new HoppingMesh();
        CHECK.due("no MESH", NONE, mesh.lose(0));
        Check.tell(mesh, "su0;p;pa2b3k3", 0);
        CHECK.due("no such PAIR", NONE, mesh.lose(2));
        CHECK.due("no such PAIR", NONE, mesh.lose(-1));
        CHECK.due("no LETTER", NONE, mesh.lose(0));
        CHECK.status(mesh, 3, 0, 1, 0, 0);
        mesh.deal(0, 0, 1);
        mesh.deal(1, 0, 1);
        CHECK.due("REQUEST", 0, mesh.lose(1));
        CHECK.due("UNDER WAY", 1, mesh.most(3));
        mesh.undo();
        CHECK.due("UNDER WAY", 3, mesh.most(3));
        mesh.frames(1);
        CHECK.due("answer", 1, mesh.lose(0));
        mesh.frames(1);
        CHECK.due("CONFIRM", 2, mesh.lose(1));
    }

    private static void jam() {
        HoppingMesh mesh = new HoppingMesh();
        CHECK.due("no MESH", NONE, mesh.jam(-1));
        Check.tell(mesh, "su0c1;p", 0);
        Check.tell(mesh, "57", 1);
        CHECK.due("jam(-1)", NONE, mesh.jam(-1));
        CHECK.due("jam(16)", NONE, mesh.jam(16));
        CHECK.status(mesh, 1, 2, 0, 0, 0);
        mesh.deal(0, 0, 1);
        mesh.frames(2);
        CHECK.due("GOT", 1, mesh.cell(0, 0, 0, 2));
        CHECK.due("jam(15)", 1, mesh.jam(15));
        CHECK.due("jam(7)", 1, mesh.jam(7));
        CHECK.due("JAMMED", 1 << 15 | 1 << 7, mesh.most(8));
        mesh.frames(1);
        CHECK.due("another CHANNEL", 2, mesh.cell(0, 0, 0, 2));
        CHECK.due("jam(5)", 1, mesh.jam(5));
        mesh.frames(1);
        CHECK.due("JAMMED: SENT", 3, mesh.cell(0, 0, 0, 1));
        CHECK.due("JAMMED: not GOT", 2, mesh.cell(0, 0, 0, 2));
        CHECK.due("QUEUE", 2, mesh.pair(0, 4));
        CHECK.due("jam(5)", 0, mesh.jam(5));
        mesh.frames(1);
        CHECK.due("not any more", 3, mesh.cell(0, 0, 0, 2));
        CHECK.due("JAMMED", 1 << 15 | 1 << 7, mesh.most(8));
    }

    private static void load() {
        HoppingMesh mesh = new HoppingMesh();
        CHECK.due("no MESH", NONE, mesh.load(0, 1));
        Check.tell(mesh, "su0;pl3", 0);
        CHECK.due("no such PAIR", NONE, mesh.load(1, 10));
        CHECK.due("out of bounds", NONE, mesh.load(0, 10));
        CHECK.due("out of bounds", NONE, mesh.load(0, -1));
        CHECK.due("it is so", NONE, mesh.load(0, 3));
        CHECK.status(mesh, 2, 2, 1, 0, 0);
        CHECK.due("how it was", 3, mesh.load(0, 9));
        mesh.frames(1);
        CHECK.due("QUEUE", 9, mesh.pair(0, 4));
        CHECK.due("how it was", 9, mesh.load(0, 0));
        mesh.frames(1);
        CHECK.due("QUEUE", 9, mesh.pair(0, 4));
    }

    private static void auto() {
        HoppingMesh mesh = new HoppingMesh();
        CHECK.due("no MESH", NONE, mesh.auto());
        CHECK.status(mesh, 1, 0, 0, 0, 0);
        Check.tell(mesh, "p", 0);
        CHECK.due("not AUTO", 0, mesh.auto());
        mesh.frames(8);
        CHECK.due("nothing is begun", 0, mesh.most(3));
        CHECK.due("AUTO", 1, mesh.auto());
        mesh.frames(3);
        CHECK.due("not yet", 0, mesh.most(3));
        mesh.frames(1);
        CHECK.due("the last FRAME of the WINDOW", 1, mesh.most(3));
    }

    /** As told by hand: a CELL more behind FRAMES 5, 9 and 13, then used by a third. */
    private static void autoFollowsLoad() {
        HoppingMesh mesh = Check.mesh("p");
        mesh.frames(4);
        CHECK.due("ADD 1", 1, mesh.letter(0, 4));
        CHECK.due("ADD 1", 2, mesh.letter(0, 5));
        mesh.frames(3);
        CHECK.due("USED", 2, mesh.pair(0, 5));
        CHECK.due("PASSED", 2, mesh.pair(0, 6));
        mesh.frames(1);
        CHECK.due("USED", 0, mesh.pair(0, 5));
        CHECK.due("PASSED", 0, mesh.pair(0, 6));
        CHECK.due("ADD 1", 11, mesh.letter(0, 6));
        mesh.frames(6);
        table("three CELLS", mesh, 0, 0, 0, 11, 20);
        mesh.frames(6);
        CHECK.due("steady", 0, mesh.most(3));
        mesh.load(0, 0);
        mesh.frames(4);
        CHECK.due("DELETE", 1, mesh.letter(0, 1));
        CHECK.due("DELETE", 20, mesh.letter(0, 6));
        mesh.frames(12);
        table("one stays", mesh, 0, 0, 0);
        CHECK.due("one stays", 0, mesh.most(3));
        mesh.load(0, 9);
        mesh.frames(40);
        CHECK.due("six at most", 6, mesh.pair(0, 9));
        CHECK.due("QUEUE", 99 - 6, mesh.pair(0, 4));
    }

    private static void autoAtTheBounds() {
        HoppingMesh mesh = Check.mesh("sm4u0;pl0");
        mesh.deal(0, 0, 2);
        mesh.frames(4);
        mesh.auto();
        mesh.load(0, 3);
        mesh.frames(1);
        mesh.load(0, 2);
        mesh.frames(1);
        mesh.load(0, 1);
        mesh.frames(1);
        mesh.load(0, 0);
        CHECK.due("USED", 6, mesh.pair(0, 5));
        mesh.frames(1);
        CHECK.due("4 times 6 is not above 3 times 8", 0, mesh.most(3));
        mesh.load(0, 1);
        mesh.frames(2);
        mesh.load(0, 0);
        mesh.frames(2);
        CHECK.due("4 times 2 is not below 8", 0, mesh.most(3));
        mesh.load(0, 1);
        mesh.frames(1);
        mesh.load(0, 0);
        mesh.frames(3);
        CHECK.due("4 times 1 is below 8: DELETE", 1, mesh.letter(0, 1));
        mesh.frames(4);
        CHECK.due("one CELL is not taken", 0, mesh.most(3));
        HoppingMesh none = Check.mesh("sm2;pl0");
        none.frames(4);
        CHECK.due("no CELL, no QUEUE", 0, none.most(3));
        none.load(0, 1);
        none.frames(1);
        none.load(0, 0);
        none.frames(1);
        CHECK.due("no CELL, one QUEUES: ADD", 0, none.letter(0, 1));
        HoppingMesh full = Check.mesh("sw4m2;pl9");
        full.frames(40);
        CHECK.due("no OFFERS: left", 4, full.pair(0, 9));
        CHECK.due("no OFFERS: left", 0, full.most(3));
        CHECK.due("USED", 0, full.pair(0, 5));
    }

    /** SENT and GOT go with their CELLS when others come or are taken out between. */
    private static void countsMoveWithTheirCells() {
        HoppingMesh mesh = Check.mesh("sw6c1u0;pl2");
        Check.tell(mesh, "012345", 1);
        mesh.deal(0, 0, 3);
        mesh.frames(3);
        mesh.jam(1);
        mesh.load(0, 3);
        mesh.frames(2);
        counts(mesh, 0, 4, 4, 10, 4, 2, 20, 4, 4);
        CHECK.due("half is not less", NONE, mesh.most(9));
        mesh.deal(0, 2, 0);
        mesh.frames(2);
        counts(mesh, 10, 6, 2, 20, 6, 6, 30, 1, 1);
        CHECK.due("BAD", 10, mesh.most(9));
        mesh.deal(0, 2, 2);
        mesh.load(0, 0);
        mesh.frames(2);
        counts(mesh, 10, 8, 2, 20, 8, 8, 40, 1, 1);
        mesh.deal(0, 0, 1);
        mesh.frames(2);
        counts(mesh, 0, 1, 1, 10, 9, 2, 20, 9, 9, 40, 1, 1);
    }

    private static void counts(HoppingMesh mesh, int... due) {
        for (int i = 0; i < due.length; i++) {
            CHECK.due("cell(0, 0, " + i / 3 + ", " + i % 3 + ")", due[i], mesh.cell(0, 0, i / 3, i % 3));
        }
    }

    /** PAIR 1 sends in CELL 0 all the time, so CELL 0 of PAIR 0 never comes over. */
    private static void autoMovesBadCells() {
        HoppingMesh mesh = Check.mesh("sc1u0;pl2;pa2b3l1");
        mesh.deal(0, 0, 2);
        mesh.deal(1, 0, 1);
        mesh.frames(4);
        CHECK.due("SENT 3 times", NONE, mesh.most(9));
        mesh.frames(1);
        CHECK.due("SENT", 4, mesh.cell(0, 0, 0, 1));
        CHECK.due("GOT", 0, mesh.cell(0, 0, 0, 2));
        CHECK.due("GOT", 4, mesh.cell(0, 0, 1, 2));
        CHECK.due("BAD", 0, mesh.most(9));
        HoppingMesh moving = Check.mesh("sc1m9u0;pl1;pa2b3l1");
        moving.deal(0, 0, 3);
        moving.deal(1, 0, 1);
        moving.frames(8);
        moving.auto();
        moving.load(0, 0);
        CHECK.due("USED", 14, moving.pair(0, 5));
        CHECK.due("PASSED", 21, moving.pair(0, 6));
        moving.frames(1);
        int[] move = {0, 2, NONE, 1, NONE, 3, 0, 30, 40};
        for (int what = 0; what < move.length; what++) {
            CHECK.due("MOVE of the BAD CELL: letter(0, " + what + ")", move[what], moving.letter(0, what));
        }
        CHECK.due("PAIR 1 has no better one: ADD", 0, moving.letter(1, 1));
        moving.frames(2);
        table("moved", moving, 0, 0, 10, 20, 30);
        CHECK.due("SENT anew", 0, moving.cell(0, 0, 2, 1));
        CHECK.due("SENT goes on from 7", 8, moving.cell(0, 0, 0, 1));
    }

    private static void collisions() {
        HoppingMesh mesh = Check.mesh("sc1u0;p;pa2b3");
        mesh.deal(0, 0, 1);
        mesh.deal(1, 0, 1);
        mesh.frames(2);
        CHECK.due("SENT", 1, mesh.cell(0, 0, 0, 1));
        CHECK.due("not GOT", 0, mesh.cell(0, 0, 0, 2));
        CHECK.due("not GOT", 0, mesh.cell(1, 0, 0, 2));
        CHECK.due("LOG", 0, mesh.log(0, 2));
        CHECK.due("QUEUE", 2, mesh.pair(0, 4));
        CHECK.due("COLLIDE", 3, mesh.most(0));
        HoppingMesh quiet = Check.mesh("sc1u0;p;pa2b3l0");
        quiet.deal(0, 0, 1);
        quiet.deal(1, 0, 1);
        quiet.frames(2);
        CHECK.due("GOT, as the other does not send", 1, quiet.cell(0, 0, 0, 2));
        CHECK.due("nothing SENT", 0, quiet.cell(1, 0, 0, 1));
        CHECK.due("COLLIDE all the same", 3, quiet.most(0));
    }

    private static void countsEnd() {
        HoppingMesh mesh = Check.mesh("su0;p");
        mesh.deal(0, 0, 2);
        mesh.load(0, 2);
        for (int i = 0; i < 24; i++) {
            mesh.frames(40);
        }
        mesh.frames(39);
        CHECK.due("SENT", 998, mesh.cell(0, 0, 1, 1));
        CHECK.due("GOT", 998, mesh.cell(0, 0, 1, 2));
        mesh.frames(3);
        for (int i = 0; i < 2; i++) {
            CHECK.due("SENT", 999, mesh.cell(0, 0, i, 1));
            CHECK.due("GOT", 999, mesh.cell(0, 0, i, 2));
        }
        CHECK.due("still GOT", 2, mesh.log(0, 2));
        CHECK.due("still GOT", 14, mesh.comes(0, 7, 0));
        CHECK.due("QUEUE", 2, mesh.pair(0, 4));
        HoppingMesh full = Check.mesh("su0;pl9");
        full.frames(11);
        CHECK.due("QUEUE", 99, full.pair(0, 4));
        full.frames(1);
        CHECK.due("QUEUE at most", 99, full.pair(0, 4));
    }

    /** What the draws of one seed tell, FRAME by FRAME, done by hand on another object. */
    private static void years() {
        for (long seed = -300; seed < 300; seed++) {
            HoppingMesh mesh = Check.mesh("sm2t2;p;pa1b2k3l3;pa2b0");
            HoppingMesh hand = Check.mesh("sm2t2;p;pa1b2k3l3;pa2b0");
            int loss = (int) Math.floorMod(seed, 10L);
            mesh.loss(loss);
            long[] x = {seed};
            for (int i = 0; i < 30; i++) {
                if (draw(x, 10) < loss) {
                    hand.lose(draw(x, 3));
                }
                if (draw(x, 20) < 1) {
                    hand.jam(draw(x, 16));
                }
                hand.frames(1);
            }
            CHECK.due("years(30, " + seed + ")", 30, mesh.years(30, seed));
            CHECK.due("30 ACTS", 30, mesh.count(6));
            CHECK.due("no STATUS", 0, mesh.status(2));
            CHECK.due("JAMMED", hand.most(8), mesh.most(8));
            for (int p = 0; p < 3; p++) {
                for (int what = 3; what <= 10; what++) {
                    CHECK.due("pair(" + p + ", " + what + ")", hand.pair(p, what), mesh.pair(p, what));
                }
            }
            for (int i = 0; i < 30; i++) {
                CHECK.due("log(" + i + ", 0)", hand.log(i, 0), mesh.log(i, 0));
                CHECK.due("log(" + i + ", 2)", hand.log(i, 2), mesh.log(i, 2));
            }
            for (int i = 29; i >= 0; i--) {
                CHECK.due("one ACT each", i, mesh.undo());
            }
            CHECK.due("JAMMED", 0, mesh.most(8));
        }
    }

    private static int draw(long[] x, int j) {
        x[0] = x[0] * 6364136223846793005L + 1442695040888963407L;
        return (int) ((x[0] >>> 33) % j);
    }

    private static void yearsRefused() {
        HoppingMesh mesh = new HoppingMesh();
        CHECK.due("no MESH", NONE, mesh.years(1, 0));
        Check.tell(mesh, "p", 0);
        CHECK.due("years(0)", NONE, mesh.years(0, 0));
        CHECK.due("years(41)", NONE, mesh.years(41, 0));
        CHECK.due("years(max)", NONE, mesh.years(Integer.MAX_VALUE, 0));
        CHECK.due("years(40)", 40, mesh.years(40, Long.MIN_VALUE));
        CHECK.status(mesh, 0, 0, 0, 0, 0);
    }

    private static void status() {
        HoppingMesh mesh = new HoppingMesh();
        CHECK.due("status(-1)", NONE, mesh.status(-1));
        CHECK.due("status(5)", NONE, mesh.status(5));
        mesh.auto();
        Check.tell(mesh, "p", 0);
        mesh.frames(1);
        mesh.lose(0);
        mesh.deal(0, 1, 1);
        mesh.jam(99);
        CHECK.status(mesh, 1, 1, 1, 1, 0);
        mesh.undo();
        CHECK.status(mesh, 1, 1, 1, 1, 0);
        mesh.image();
        mesh.jam(99);
        mesh.back();
        CHECK.status(mesh, 1, 2, 1, 1, 0);
        mesh.undo();
        mesh.comes(9, 0, 0);
        mesh.text(0);
        CHECK.status(mesh, 1, 2, 1, 1, 0);
    }

    private static void undo() {
        HoppingMesh mesh = new HoppingMesh();
        CHECK.due("none", NONE, mesh.undo());
        Check.tell(mesh, "su0;p", 0);
        CHECK.due("none", NONE, mesh.undo());
        mesh.frames(40);
        CHECK.due("ACTS", 40, mesh.count(6));
        mesh.jam(3);
        mesh.frames(1);
        CHECK.due("the latest 40", 40, mesh.count(6));
        CHECK.due("a FRAME", 39, mesh.undo());
        CHECK.due("a FRAME", 40, mesh.count(3));
        CHECK.due("JAMMED", 8, mesh.most(8));
        CHECK.due("the jam", 38, mesh.undo());
        CHECK.due("JAMMED", 0, mesh.most(8));
        for (int i = 37; i >= 0; i--) {
            CHECK.due("a FRAME", i, mesh.undo());
        }
        CHECK.due("FRAME", 2, mesh.count(3));
        CHECK.due("LOG", 2, mesh.count(5));
        CHECK.due("none", NONE, mesh.undo());
        CHECK.due("FRAME", 2, mesh.count(3));
        mesh.frames(2);
        CHECK.due("anew", 1, mesh.undo());
    }

    private static void undoOfEach() {
        HoppingMesh mesh = Check.mesh("su0;pl2");
        mesh.deal(0, 0, 2);
        mesh.frames(3);
        mesh.deal(0, 2, 0);
        CHECK.due("MOVE undone", 4, mesh.undo());
        CHECK.due("no LETTER", NONE, mesh.letter(0, 0));
        CHECK.due("does not WAIT", 0, mesh.waits(0, 0, 0));
        CHECK.due("not PROMISED", 3, mesh.node(0, 0));
        mesh.load(0, 5);
        mesh.undo();
        CHECK.due("LOAD", 2, mesh.pair(0, 3));
        mesh.auto();
        mesh.undo();
        CHECK.due("AUTO", 0, mesh.rule(4));
        mesh.undo();
        CHECK.due("SENT", 1, mesh.cell(0, 0, 0, 1));
        CHECK.due("GOT", 1, mesh.cell(0, 0, 1, 2));
        CHECK.due("QUEUE", 2, mesh.pair(0, 4));
        CHECK.due("USED", 2, mesh.pair(0, 5));
        mesh.undo();
        table("SENDER", mesh, 0, 0);
        table("RECEIVER", mesh, 0, 1, 0, 11);
        CHECK.due("the answer", 1, mesh.letter(0, 0));
        mesh.lose(0);
        mesh.undo();
        CHECK.due("the answer", 1, mesh.letter(0, 0));
        mesh.undo();
        CHECK.due("the REQUEST", 3, mesh.letter(0, 5));
        CHECK.due("the first", 0, mesh.undo());
        CHECK.due("none", 0, mesh.most(3));
        mesh.loss(5);
        CHECK.due("LOSS is no ACT", NONE, mesh.undo());
    }

    private static void log() {
        HoppingMesh mesh = new HoppingMesh();
        CHECK.due("no MESH", NONE, mesh.log(0, 0));
        Check.tell(mesh, "su0;p;pa2b3l0", 0);
        CHECK.due("no FRAME", NONE, mesh.log(0, 0));
        mesh.deal(0, 0, 2);
        mesh.deal(1, 0, 1);
        mesh.frames(4);
        int[][] due = {{0, 3, 1}, {0, 3, 1}, {0, 3, 2}, {2, 0, 0}};
        for (int i = 0; i < due.length; i++) {
            for (int what = 0; what < 3; what++) {
                CHECK.due("log(" + i + ", " + what + ")", due[i][what], mesh.log(i, what));
            }
        }
        CHECK.due("no such one", NONE, mesh.log(4, 0));
        CHECK.due("no such one", NONE, mesh.log(-1, 0));
        CHECK.due("no such what", NONE, mesh.log(0, 3));
        CHECK.due("no such what", NONE, mesh.log(0, -1));
        mesh.frames(40);
        mesh.frames(20);
        CHECK.due("the latest 60", 60, mesh.count(5));
        CHECK.due("the latest 60", 1, mesh.log(59, 2));
        CHECK.due("the latest 60", NONE, mesh.log(60, 2));
        mesh.frames(1);
        for (int i = 0; i < 4; i++) {
            mesh.undo();
        }
        CHECK.due("the ones ahead again", 2, mesh.log(59, 2));
        mesh.undo();
        CHECK.due("the first one again", 2, mesh.log(59, 0));
        CHECK.due("the second one", 2, mesh.log(58, 2));
        CHECK.due("no such one", NONE, mesh.log(60, 0));
    }
}
