/** Promises 6 to 12: rule, pair, cell, waits, letter, channel, loss. */
public final class TellTest {
    private static final Check CHECK = new Check();
    private static final int NONE = HoppingMesh.NONE;

    public static void main(String[] args) {
        rule();
        pair();
        cell();
        waits();
        letterOfTwoSteps();
        letterOfThreeSteps();
        letterOfDelete();
        letterOfMove();
        letterOfClear();
        channelWithoutHops();
        channelWithHops();
        loss();
        CHECK.end("TellTest");
    }

    private static void rule() {
        HoppingMesh mesh = Check.mesh("p");
        int[] usual = {10, 2, 3, 4, 1};
        for (int what = 0; what < 5; what++) {
            CHECK.due("usual rule(" + what + ")", usual[what], mesh.rule(what));
        }
        CHECK.due("rule(5)", NONE, mesh.rule(5));
        CHECK.due("rule(-1)", NONE, mesh.rule(-1));
        Check.tell(mesh, "p;sw16c4t9m8u0", 0);
        int[] told = {16, 4, 9, 8, 0};
        for (int what = 0; what < 5; what++) {
            CHECK.due("told rule(" + what + ")", told[what], mesh.rule(what));
        }
        mesh.auto();
        CHECK.due("AUTO now", 1, mesh.rule(4));
    }

    private static void pair() {
        HoppingMesh mesh = Check.mesh("su0;pa2b4k3l0;pa4b2l2");
        mesh.deal(1, 0, 1);
        mesh.frames(1);
        int[] due = {4, 2, 2, 2, 2, 0, 0, 0, 1, 0, 1};
        for (int what = 0; what < due.length; what++) {
            CHECK.due("pair(1, " + what + ")", due[what], mesh.pair(1, what));
        }
        mesh.frames(1);
        int[] then = {4, 2, 2, 2, 3, 1, 1, 1, 1, 1, 1};
        for (int what = 0; what < then.length; what++) {
            CHECK.due("then pair(1, " + what + ")", then[what], mesh.pair(1, what));
        }
        mesh.load(1, 7);
        CHECK.due("LOAD as now", 7, mesh.pair(1, 3));
        CHECK.throwsNoSuchElement(mesh, 2, 0);
        CHECK.throwsNoSuchElement(mesh, -1, 0);
        CHECK.throwsNoSuchElement(mesh, 0, 11);
        CHECK.throwsNoSuchElement(mesh, 0, -1);
        CHECK.throwsNoSuchElement(new HoppingMesh(), 0, 0);
    }

    private static void cell() {
        HoppingMesh mesh = Check.mesh("su0;p");
        mesh.deal(0, 0, 3);
        mesh.frames(3);
        int[][] due = {{0, 2, 2}, {11, 1, 1}, {20, 0, 0}};
        for (int i = 0; i < 3; i++) {
            for (int what = 0; what < 3; what++) {
                CHECK.due("cell(0, 0, " + i + ", " + what + ")", due[i][what], mesh.cell(0, 0, i, what));
            }
            CHECK.due("cell(0, 1, " + i + ", 0)", due[i][0], mesh.cell(0, 1, i, 0));
            CHECK.due("cell(0, 1, " + i + ", 1)", NONE, mesh.cell(0, 1, i, 1));
            CHECK.due("cell(0, 1, " + i + ", 2)", NONE, mesh.cell(0, 1, i, 2));
        }
        CHECK.due("no such place", NONE, mesh.cell(0, 0, 3, 0));
        CHECK.due("no such place", NONE, mesh.cell(0, 1, 3, 0));
        CHECK.due("no such place", NONE, mesh.cell(0, 0, -1, 0));
        CHECK.due("no such place", NONE, mesh.cell(0, 1, -1, 0));
        CHECK.due("no such side", NONE, mesh.cell(0, 2, 0, 0));
        CHECK.due("no such side", NONE, mesh.cell(0, -1, 0, 0));
        CHECK.due("no such what", NONE, mesh.cell(0, 0, 0, 3));
        CHECK.due("no such what", NONE, mesh.cell(0, 0, 0, -1));
        CHECK.due("no such what", NONE, mesh.cell(0, 1, 0, -1));
        CHECK.due("no such PAIR", NONE, mesh.cell(1, 0, 0, 0));
        CHECK.due("no such PAIR", NONE, mesh.cell(-1, 0, 0, 0));
    }

    private static void waits(HoppingMesh mesh, int side, int whether, int from, int promised) {
        CHECK.due("waits whether, side " + side, whether, mesh.waits(0, side, 0));
        CHECK.due("waits from, side " + side, from, mesh.waits(0, side, 1));
        CHECK.due("waits promised, side " + side, promised, mesh.waits(0, side, 2));
    }

    private static void waits() {
        HoppingMesh mesh = Check.mesh("su0;pk3");
        mesh.frames(2);
        waits(mesh, 0, 0, NONE, 0);
        mesh.deal(0, 0, 3);
        waits(mesh, 0, 1, 2, 0);
        waits(mesh, 1, 0, NONE, 0);
        mesh.frames(1);
        waits(mesh, 0, 1, 2, 0);
        waits(mesh, 1, 1, 2, 4);
        CHECK.due("PROMISED is TAKEN", 15, mesh.node(1, 0));
        mesh.frames(1);
        waits(mesh, 0, 0, NONE, 0);
        waits(mesh, 1, 1, 2, 4);
        mesh.frames(1);
        waits(mesh, 1, 0, NONE, 0);
        mesh.deal(0, 2, 2);
        waits(mesh, 0, 1, 5, 2);
        CHECK.due("no such side", NONE, mesh.waits(0, 2, 0));
        CHECK.due("no such side", NONE, mesh.waits(0, -1, 0));
        CHECK.due("no such what", NONE, mesh.waits(0, 0, 3));
        CHECK.due("no such what", NONE, mesh.waits(0, 0, -1));
        CHECK.due("no such PAIR", NONE, mesh.waits(1, 0, 0));
        CHECK.due("no such PAIR", NONE, mesh.waits(-1, 0, 0));
    }

    /** The words from 0 on; what is not told is NONE up to 13. */
    private static void letter(String name, HoppingMesh mesh, int... words) {
        for (int what = -1; what <= 13; what++) {
            int due = what >= 0 && what < words.length ? words[what] : NONE;
            CHECK.due(name + ": letter(0, " + what + ")", due, mesh.letter(0, what));
        }
        CHECK.due("no such PAIR", NONE, mesh.letter(1, 0));
        CHECK.due("no such PAIR", NONE, mesh.letter(-1, 0));
    }

    private static void letterOfTwoSteps() {
        HoppingMesh mesh = Check.mesh("su0;p");
        letter("none", mesh);
        mesh.deal(0, 0, 3);
        letter("ADD 3", mesh, 0, 0, NONE, 0, 3, 4, 0, 11, 20, 31);
        mesh.frames(1);
        letter("OK to ADD 3", mesh, 1, 0, 0, NONE, 3, 3, 0, 11, 20);
        mesh.frames(1);
        letter("read", mesh);
        mesh.deal(0, 0, 3);
        letter("ADD 3 again", mesh, 0, 0, NONE, 1, 3, 4, 31, 40, 51, 60);
        mesh.frames(2);
        mesh.deal(0, 0, 2);
        letter("ADD 2", mesh, 0, 0, NONE, 2, 2, 3, 60, 71, 80);
        mesh.frames(1);
        letter("NO, as there is no room", mesh, 1, 0, 1, NONE, 2, 0);
        mesh.frames(1);
        CHECK.due("NO: SEQ stays", 2, mesh.pair(0, 7));
        CHECK.due("NO: SEQ stays", 2, mesh.pair(0, 8));
        CHECK.due("NO: it does not WAIT", 0, mesh.waits(0, 0, 0));
    }

    private static void letterOfThreeSteps() {
        HoppingMesh mesh = Check.mesh("su0;pk3");
        mesh.deal(0, 0, 2);
        letter("ADD 2", mesh, 0, 0, NONE, 0, 2, 0);
        mesh.frames(1);
        letter("OK", mesh, 1, 0, 0, NONE, 2, 3, 0, 11, 20);
        CHECK.due("SEQ not yet", 0, mesh.pair(0, 8));
        mesh.frames(1);
        letter("CONFIRM", mesh, 2, 0, NONE, NONE, 2, 2, 0, 11);
        CHECK.due("SENDER's SEQ", 1, mesh.pair(0, 7));
        CHECK.due("RECEIVER's SEQ", 0, mesh.pair(0, 8));
        mesh.frames(1);
        letter("read", mesh);
        CHECK.due("RECEIVER's SEQ", 1, mesh.pair(0, 8));
        CHECK.due("RECEIVER's CELLS", 2, mesh.pair(0, 10));
    }

    private static void letterOfDelete() {
        HoppingMesh mesh = Check.mesh("su0;p");
        mesh.deal(0, 0, 3);
        mesh.frames(2);
        mesh.deal(0, 1, 2);
        letter("DELETE 2", mesh, 0, 1, NONE, 1, 2, 2, 11, 20);
        mesh.frames(1);
        letter("OK", mesh, 1, 1, 0, NONE, 2, 2, 11, 20);
        mesh.frames(1);
        mesh.deal(0, 1, 3);
        letter("DELETE 3 of one", mesh, 0, 1, NONE, 2, 3, 1, 0);
    }

    private static void letterOfMove() {
        HoppingMesh mesh = Check.mesh("su0;p");
        mesh.deal(0, 0, 3);
        mesh.frames(2);
        mesh.deal(0, 2, 1);
        letter("MOVE", mesh, 0, 2, NONE, 1, NONE, 3, 11, 31, 40);
        mesh.frames(1);
        letter("OK", mesh, 1, 2, 0, NONE, NONE, 2, 11, 31);
        CHECK.due("its TABLE", 31, mesh.cell(0, 1, 2, 0));
        mesh.frames(1);
        CHECK.due("its TABLE", 20, mesh.cell(0, 0, 1, 0));
        CHECK.due("its TABLE", 31, mesh.cell(0, 0, 2, 0));
    }

    private static void letterOfClear() {
        HoppingMesh mesh = Check.mesh("su0;p");
        mesh.deal(0, 0, 3);
        mesh.frames(1);
        mesh.lose(0);
        mesh.frames(3);
        mesh.deal(0, 0, 1);
        mesh.frames(1);
        letter("ODD", mesh, 1, 0, 2, NONE, 1, 0);
        mesh.frames(1);
        letter("CLEAR at once", mesh, 0, 3, NONE, 0, NONE, 0);
        mesh.frames(1);
        letter("OK", mesh, 1, 3, 0, NONE, NONE, 0);
    }

    private static void channelWithoutHops() {
        HoppingMesh mesh = new HoppingMesh();
        CHECK.due("no MESH", NONE, mesh.channel(0, 0));
        Check.tell(mesh, "sw5c3;p", 0);
        CHECK.due("channel(0, 0)", 0, mesh.channel(0, 0));
        CHECK.due("channel(0, 42)", 0, mesh.channel(0, 42));
        CHECK.due("channel(0, 41)", 2, mesh.channel(0, 41));
        CHECK.due("channel(1, 0)", 2, mesh.channel(1, 0));
        CHECK.due("channel(9999, 11)", (9999 * 5 + 2) % 3, mesh.channel(9999, 11));
        CHECK.due("channel(10000, 11)", NONE, mesh.channel(10000, 11));
        CHECK.due("channel(-1, 11)", NONE, mesh.channel(-1, 11));
        CHECK.due("OFFSET out of bounds", NONE, mesh.channel(0, 3));
        CHECK.due("SLOT out of bounds", NONE, mesh.channel(0, 50));
        CHECK.due("no such CELL", NONE, mesh.channel(0, -1));
        CHECK.due("no such CELL", NONE, mesh.channel(0, -10));
        Check.tell(mesh, "sw16c1;p", 0);
        CHECK.due("one OFFSET", 0, mesh.channel(7, 150));
        CHECK.due("one OFFSET", NONE, mesh.channel(7, 151));
        CHECK.due("SLOT out of bounds", NONE, mesh.channel(7, 160));
    }

    private static void channelWithHops() {
        HoppingMesh mesh = new HoppingMesh();
        Check.tell(mesh, "5739", 1);
        CHECK.due("no MESH", NONE, mesh.channel(0, 0));
        Check.tell(mesh, "sw5c3;p", 0);
        CHECK.due("channel(0, 0)", 5, mesh.channel(0, 0));
        CHECK.due("channel(0, 42)", 3, mesh.channel(0, 42));
        CHECK.due("channel(0, 41)", 7, mesh.channel(0, 41));
        CHECK.due("channel(3, 20)", 7, mesh.channel(3, 20));
        CHECK.due("channel(9999, 11)", 7, mesh.channel(9999, 11));
        Check.tell(mesh, "sw16c4;p", 0);
        CHECK.due("channel(0, 153)", 3, mesh.channel(0, 153));
        CHECK.due("channel(0, 150)", 9, mesh.channel(0, 150));
        Check.tell(mesh, "8", 1);
        CHECK.due("one HOP", 8, mesh.channel(77, 33));
    }

    private static void loss() {
        HoppingMesh mesh = new HoppingMesh();
        CHECK.due("it is so", false, mesh.loss(2));
        CHECK.due("loss(-1)", false, mesh.loss(-1));
        CHECK.due("loss(10)", false, mesh.loss(10));
        CHECK.due("LOSS", 2, mesh.count(4));
        CHECK.due("loss(0)", true, mesh.loss(0));
        CHECK.due("loss(9)", true, mesh.loss(9));
        CHECK.due("LOSS", 9, mesh.count(4));
        CHECK.due("it is so", false, mesh.loss(9));
        CHECK.due("no STATUS", 0, mesh.status(1) + mesh.status(2));
        CHECK.due("no ACT", 0, mesh.count(6));
    }
}
