/** The bounds that promises 6 to 12 name: rule, pair, cell, waits, letter, channel, loss. */
public final class Bounds06To12Test {
    private static final Check CHECK = new Check();
    private static final Twins TWINS = new Twins(CHECK);
    private static final int NONE = HoppingMesh.NONE;
    private static final int[] FAR = {Integer.MIN_VALUE, -1000, -2, 100, 1000, Integer.MAX_VALUE};

    public static void main(String[] args) {
        p6LeastAndMost();
        p6Without();
        p6AutoNow();
        p6NoSuchWhat();
        p7NoSuchOnes();
        p7AtFirst();
        p7LeastAndMost();
        p7QueueAtMost();
        p7SeqGoesRound();
        p7SeqAtOddsWhereItGoesRound();
        p7CellsAtMost();
        p8EmptyTable();
        p8FullTable();
        p8Rising();
        p8NoSuchOnes();
        p8SentAndGotAtFirst();
        p8SentAndGotStay();
        p8SentAndGotAtMost();
        p8SentAndGotOfSixAtMost();
        p9NobodyWaits();
        p9Promised();
        p9FromWhichFrame();
        p9NoSuchOnes();
        p10None();
        p10Requests();
        p10Answers();
        p10Confirms();
        p10NoSuchOnes();
        p11FrameBounds();
        p11CellBounds();
        p11GoesRound();
        p11WithoutHops();
        p11NoMesh();
        p12Bounds();
        p12ItIsSo();
        p12DrawsBelowLoss();
        CHECK.end("Bounds06To12Test", 6, 12);
    }

    private static void rules(HoppingMesh mesh, int... want) {
        for (int what = 0; what < want.length; what++) {
            CHECK.due("rule(" + what + ")", want[what], mesh.rule(what));
        }
    }

    private static void p6LeastAndMost() {
        CHECK.promise(6, "the least and the most that can be told");
        rules(Check.mesh("sw4c1t2m2u0;p"), 4, 1, 2, 2, 0);
        rules(Check.mesh("sw16c4t9m9u1;p"), 16, 4, 9, 9, 1);
        rules(Check.mesh("p;sw04c01t02m02u00"), 4, 1, 2, 2, 0);
        rules(Check.mesh("p;sw9c3t8m8u01"), 9, 3, 8, 8, 1);
    }

    private static void p6Without() {
        CHECK.promise(6, "what is not told");
        rules(Check.mesh("p"), 10, 2, 3, 4, 1);
        rules(Check.mesh("s;p"), 10, 2, 3, 4, 1);
        rules(Check.mesh("sw4;p"), 4, 2, 3, 4, 1);
        rules(Check.mesh("sc4;p"), 10, 4, 3, 4, 1);
        rules(Check.mesh("st9;p"), 10, 2, 9, 4, 1);
        rules(Check.mesh("sm9;p"), 10, 2, 3, 9, 1);
        rules(Check.mesh("su0;p"), 10, 2, 3, 4, 0);
    }

    private static void p6AutoNow() {
        CHECK.promise(6, "whether AUTO now");
        HoppingMesh mesh = Check.mesh("su0;p");
        mesh.image();
        mesh.auto();
        rules(mesh, 10, 2, 3, 4, 1);
        mesh.undo();
        rules(mesh, 10, 2, 3, 4, 0);
        mesh.auto();
        mesh.auto();
        rules(mesh, 10, 2, 3, 4, 0);
        mesh.auto();
        mesh.back();
        rules(mesh, 10, 2, 3, 4, 0);
    }

    private static void p6NoSuchWhat() {
        CHECK.promise(6, "NONE: no MESH, no such what");
        HoppingMesh mesh = Check.mesh("p");
        HoppingMesh none = new HoppingMesh();
        CHECK.due("rule(-1)", NONE, mesh.rule(-1));
        CHECK.due("rule(5)", NONE, mesh.rule(5));
        for (int what : FAR) {
            CHECK.due("rule(" + what + ")", NONE, mesh.rule(what));
            CHECK.due("no MESH: rule(" + what + ")", NONE, none.rule(what));
        }
        for (int what = -1; what <= 5; what++) {
            CHECK.due("no MESH: rule(" + what + ")", NONE, none.rule(what));
        }
        TWINS.unchanged("asked", m -> Check.tell(m, "p", 0), m -> m.rule(5));
    }

    private static void p7NoSuchOnes() {
        CHECK.promise(7, "NoSuchElementException: no such ones");
        HoppingMesh one = Check.mesh("p");
        HoppingMesh six = Check.mesh("pb1;pb2;pb3;pb4;pb5;pa1b0");
        HoppingMesh none = new HoppingMesh();
        for (int what = 0; what <= 10; what++) {
            CHECK.throwsNoSuchElement(one, -1, what);
            CHECK.throwsNoSuchElement(one, 1, what);
            CHECK.throwsNoSuchElement(six, 6, what);
            CHECK.throwsNoSuchElement(none, 0, what);
        }
        for (int pair = 0; pair < 6; pair++) {
            CHECK.throwsNoSuchElement(six, pair, -1);
            CHECK.throwsNoSuchElement(six, pair, 11);
        }
        for (int far : FAR) {
            CHECK.throwsNoSuchElement(one, far, 0);
            CHECK.throwsNoSuchElement(one, 0, far);
            CHECK.throwsNoSuchElement(none, far, far);
        }
        TWINS.unchanged("thrown", m -> Check.tell(m, "p", 0), m -> {
            CHECK.throwsNoSuchElement(m, 1, 0);
            CHECK.throwsNoSuchElement(m, 0, 11);
        });
    }

    private static void pairs(HoppingMesh mesh, int pair, int... want) {
        for (int what = 0; what < want.length; what++) {
            CHECK.due("pair(" + pair + ", " + what + ")", want[what], mesh.pair(pair, what));
        }
    }

    private static void p7AtFirst() {
        CHECK.promise(7, "0 at first");
        pairs(Check.mesh("p"), 0, 0, 1, 2, 1, 0, 0, 0, 0, 0, 0, 0);
        HoppingMesh six = Check.mesh("pb1;pb2;pb3;pb4;pb5;pa1b0l9k3");
        pairs(six, 0, 0, 1, 2, 1, 0, 0, 0, 0, 0, 0, 0);
        pairs(six, 4, 0, 5, 2, 1, 0, 0, 0, 0, 0, 0, 0);
        pairs(six, 5, 1, 0, 3, 9, 0, 0, 0, 0, 0, 0, 0);
    }

    private static void p7LeastAndMost() {
        CHECK.promise(7, "the least and the most that can be told");
        pairs(Check.mesh("pa5b0k3l9"), 0, 5, 0, 3, 9);
        pairs(Check.mesh("pa0b5k2l0"), 0, 0, 5, 2, 0);
        pairs(Check.mesh("pa2"), 0, 2, 1, 2, 1);
        pairs(Check.mesh("pb2"), 0, 0, 2, 2, 1);
    }

    private static void p7QueueAtMost() {
        CHECK.promise(7, "QUEUE: 99 at most");
        HoppingMesh nine = Check.mesh("su0;pl9");
        nine.frames(10);
        CHECK.due("10 times 9", 90, nine.pair(0, 4));
        nine.frames(1);
        CHECK.due("11 times 9", 99, nine.pair(0, 4));
        nine.frames(1);
        CHECK.due("12 times 9", 99, nine.pair(0, 4));
        HoppingMesh seven = Check.mesh("su0;pl7");
        seven.frames(14);
        CHECK.due("14 times 7", 98, seven.pair(0, 4));
        seven.load(0, 2);
        seven.frames(1);
        CHECK.due("98 and 2", 99, seven.pair(0, 4));
        seven.undo();
        seven.undo();
        seven.load(0, 1);
        seven.frames(1);
        CHECK.due("98 and 1", 99, seven.pair(0, 4));
        seven.load(0, 0);
        seven.frames(1);
        CHECK.due("99 and 0", 99, seven.pair(0, 4));
        seven.deal(0, 0, 1);
        seven.frames(2);
        CHECK.due("one is GOT", 98, seven.pair(0, 4));
        seven.load(0, 9);
        seven.frames(1);
        CHECK.due("first 99, then one is GOT", 98, seven.pair(0, 4));
    }

    /**
     * By these HOPS CELLS of SLOT 0 alone come over. Of three CELLS two are used, so that neither ADD nor DELETE is
     * due, and the second is BAD at the end of each WINDOW: a MOVE in each five FRAMES.
     */
    private static HoppingMesh moving() {
        HoppingMesh mesh = Check.mesh("sw4c1m5u0;pl1", "0111");
        mesh.deal(0, 0, 3);
        mesh.frames(2);
        mesh.jam(1);
        mesh.load(0, 2);
        mesh.frames(1);
        mesh.load(0, 1);
        mesh.auto();
        return mesh;
    }

    private static void p7SeqGoesRound() {
        CHECK.promise(7, "SEQ: the NEXT of 255 is 1");
        HoppingMesh mesh = moving();
        int frames = 0;
        for (int i = 0; i < 40 && mesh.pair(0, 7) < 245; i++) {
            mesh.frames(40);
            frames++;
        }
        CHECK.due("within 40 calls", true, frames < 40);
        for (int i = 0; i < 80 && mesh.pair(0, 8) != 255; i++) {
            mesh.frames(1);
        }
        CHECK.due("RECEIVER's first", 255, mesh.pair(0, 8));
        CHECK.due("SENDER's later", 254, mesh.pair(0, 7));
        mesh.frames(1);
        CHECK.due("SENDER's", 255, mesh.pair(0, 7));
        for (int i = 0; i < 10 && mesh.pair(0, 8) == 255; i++) {
            mesh.frames(1);
        }
        CHECK.due("RECEIVER's first", 1, mesh.pair(0, 8));
        CHECK.due("SENDER's later", 255, mesh.pair(0, 7));
        CHECK.due("at odds", 0, mesh.agree(0));
        mesh.frames(1);
        CHECK.due("SENDER's", 1, mesh.pair(0, 7));
        CHECK.due("AGREE", 1, mesh.agree(0));
        mesh.frames(5);
        CHECK.due("and on", 2, mesh.pair(0, 7));
        CHECK.due("and on", 2, mesh.pair(0, 8));
    }

    private static void p7SeqAtOddsWhereItGoesRound() {
        CHECK.promise(7, "SEQ 255 and 1 are unlike");
        HoppingMesh mesh = moving();
        for (int i = 0; i < 40 && mesh.pair(0, 7) < 245; i++) {
            mesh.frames(40);
        }
        for (int i = 0; i < 80 && mesh.pair(0, 8) != 1; i++) {
            mesh.frames(1);
        }
        mesh.auto();
        CHECK.due("the answer is LOST", 1, mesh.lose(0));
        mesh.frames(4);
        CHECK.due("SENDER's", 255, mesh.pair(0, 7));
        CHECK.due("RECEIVER's", 1, mesh.pair(0, 8));
        mesh.deal(0, 1, 1);
        CHECK.due("REQUEST with 255", 255, mesh.letter(0, 3));
        mesh.frames(1);
        CHECK.due("ODD", 2, mesh.letter(0, 2));
        mesh.frames(2);
        CHECK.due("CLEAR: RECEIVER's", 0, mesh.pair(0, 8));
        mesh.frames(1);
        CHECK.due("CLEAR: SENDER's", 0, mesh.pair(0, 7));
        mesh.deal(0, 0, 1);
        mesh.frames(2);
        CHECK.due("the NEXT of 0", 1, mesh.pair(0, 7));
        CHECK.due("the NEXT of 0", 1, mesh.pair(0, 8));
    }

    private static void p7CellsAtMost() {
        CHECK.promise(7, "6 CELLS at most in each TABLE");
        HoppingMesh mesh = Check.mesh("su0;p");
        for (int n = 1; n <= 5; n++) {
            mesh.deal(0, 0, 1);
            mesh.frames(2);
        }
        CHECK.due("five", 5, mesh.pair(0, 9));
        mesh.deal(0, 0, 3);
        mesh.frames(1);
        CHECK.due("RECEIVER's", 6, mesh.pair(0, 10));
        CHECK.due("SENDER's", 5, mesh.pair(0, 9));
        mesh.frames(1);
        CHECK.due("SENDER's", 6, mesh.pair(0, 9));
        mesh.deal(0, 0, 3);
        mesh.frames(2);
        CHECK.due("SENDER's", 6, mesh.pair(0, 9));
        CHECK.due("RECEIVER's", 6, mesh.pair(0, 10));
        CHECK.due("SEQ stays", 6, mesh.pair(0, 7));
        CHECK.due("SEQ stays", 6, mesh.pair(0, 8));
    }

    private static void p8EmptyTable() {
        CHECK.promise(8, "nothing is there yet");
        HoppingMesh mesh = Check.mesh("su0;p");
        for (int i = -1; i <= 6; i++) {
            for (int what = 0; what <= 2; what++) {
                CHECK.due("side 0, " + i, NONE, mesh.cell(0, 0, i, what));
                CHECK.due("side 1, " + i, NONE, mesh.cell(0, 1, i, what));
            }
        }
        mesh.deal(0, 0, 1);
        CHECK.table(mesh, 0, 0);
        CHECK.table(mesh, 0, 1);
        mesh.frames(1);
        CHECK.table(mesh, 0, 0);
        CHECK.table(mesh, 0, 1, 0);
        mesh.frames(1);
        mesh.deal(0, 1, 1);
        mesh.frames(2);
        CHECK.table(mesh, 0, 0);
        CHECK.table(mesh, 0, 1);
    }

    private static void p8FullTable() {
        CHECK.promise(8, "a full TABLE of 6");
        HoppingMesh mesh = Check.mesh("su0;p");
        mesh.deal(0, 0, 3);
        mesh.frames(2);
        mesh.deal(0, 0, 3);
        mesh.frames(2);
        CHECK.tables(mesh, 0, 0, 11, 20, 31, 40, 51);
        CHECK.due("the sixth: SENT", 0, mesh.cell(0, 0, 5, 1));
        CHECK.due("the sixth: GOT", 0, mesh.cell(0, 0, 5, 2));
        CHECK.due("a seventh: SENT", NONE, mesh.cell(0, 0, 6, 1));
        mesh.deal(0, 0, 1);
        mesh.frames(2);
        CHECK.tables(mesh, 0, 0, 11, 20, 31, 40, 51);
        mesh.deal(0, 2, 5);
        mesh.frames(2);
        CHECK.tables(mesh, 0, 0, 11, 20, 31, 40, 60);
        mesh.deal(0, 1, 1);
        mesh.frames(2);
        CHECK.tables(mesh, 0, 0, 11, 20, 31, 40);
        CHECK.due("the sixth is gone: SENT", NONE, mesh.cell(0, 0, 5, 1));
        mesh.deal(0, 0, 1);
        mesh.frames(2);
        CHECK.tables(mesh, 0, 0, 11, 20, 31, 40, 51);
    }

    private static void p8Rising() {
        CHECK.promise(8, "CELLS, rising");
        HoppingMesh mesh = Check.mesh("sw16c4u0;pl0");
        mesh.deal(0, 0, 3);
        mesh.frames(2);
        mesh.deal(0, 2, 0);
        mesh.frames(2);
        CHECK.tables(mesh, 0, 11, 22, 33);
        mesh.deal(0, 2, 1);
        mesh.frames(2);
        CHECK.tables(mesh, 0, 11, 33, 40);
        mesh.deal(0, 0, 3);
        mesh.frames(2);
        CHECK.tables(mesh, 0, 0, 11, 22, 33, 40, 51);
        mesh.deal(0, 2, 5);
        mesh.frames(2);
        mesh.deal(0, 2, 5);
        mesh.frames(2);
        CHECK.tables(mesh, 0, 0, 11, 22, 33, 40, 73);
        for (int i = 0; i < 8; i++) {
            mesh.deal(0, 2, 5);
            mesh.frames(2);
        }
        CHECK.tables(mesh, 0, 0, 11, 22, 33, 40, 153);
        mesh.deal(0, 2, 5);
        mesh.frames(2);
        CHECK.tables(mesh, 0, 0, 11, 22, 33, 40, 51);
    }

    private static void p8NoSuchOnes() {
        CHECK.promise(8, "NONE: no such ones");
        HoppingMesh mesh = Check.mesh("su0;p;pa2b3");
        mesh.deal(0, 0, 2);
        mesh.frames(2);
        CHECK.due("the last place", 11, mesh.cell(0, 0, 1, 0));
        CHECK.due("the last what", 1, mesh.cell(0, 0, 1, 2));
        CHECK.due("what 3", NONE, mesh.cell(0, 0, 0, 3));
        CHECK.due("what -1", NONE, mesh.cell(0, 0, 0, -1));
        CHECK.due("RECEIVER's what 1", NONE, mesh.cell(0, 1, 0, 1));
        CHECK.due("RECEIVER's what 2", NONE, mesh.cell(0, 1, 0, 2));
        CHECK.due("RECEIVER's what -1", NONE, mesh.cell(0, 1, 0, -1));
        CHECK.due("place 2", NONE, mesh.cell(0, 0, 2, 0));
        CHECK.due("place -1", NONE, mesh.cell(0, 0, -1, 0));
        CHECK.due("RECEIVER's place 2", NONE, mesh.cell(0, 1, 2, 0));
        CHECK.due("RECEIVER's place -1", NONE, mesh.cell(0, 1, -1, 0));
        CHECK.due("side 2", NONE, mesh.cell(0, 2, 0, 0));
        CHECK.due("side -1", NONE, mesh.cell(0, -1, 0, 0));
        CHECK.due("pair 2", NONE, mesh.cell(2, 0, 0, 0));
        CHECK.due("pair -1", NONE, mesh.cell(-1, 0, 0, 0));
        for (int far : FAR) {
            CHECK.due("pair " + far, NONE, mesh.cell(far, 0, 0, 0));
            CHECK.due("side " + far, NONE, mesh.cell(0, far, 0, 0));
            CHECK.due("place " + far, NONE, mesh.cell(0, 0, far, 0));
            CHECK.due("RECEIVER's place " + far, NONE, mesh.cell(0, 1, far, 0));
            CHECK.due("what " + far, NONE, mesh.cell(0, 0, 0, far));
            CHECK.due("RECEIVER's what " + far, NONE, mesh.cell(0, 1, 0, far));
        }
    }

    private static void p8SentAndGotAtFirst() {
        CHECK.promise(8, "SENT and GOT: 0 at first");
        HoppingMesh mesh = Check.mesh("su0;pl0");
        mesh.deal(0, 0, 1);
        mesh.frames(2);
        CHECK.due("SENT", 0, mesh.cell(0, 0, 0, 1));
        CHECK.due("GOT", 0, mesh.cell(0, 0, 0, 2));
        mesh.load(0, 1);
        mesh.frames(1);
        CHECK.due("SENT", 1, mesh.cell(0, 0, 0, 1));
        CHECK.due("GOT", 1, mesh.cell(0, 0, 0, 2));
        mesh.load(0, 0);
        mesh.deal(0, 2, 0);
        mesh.frames(2);
        CHECK.due("moved", 11, mesh.cell(0, 0, 0, 0));
        CHECK.due("moved: SENT", 0, mesh.cell(0, 0, 0, 1));
        CHECK.due("moved: GOT", 0, mesh.cell(0, 0, 0, 2));
        mesh.load(0, 1);
        mesh.frames(5);
        mesh.load(0, 0);
        mesh.deal(0, 1, 1);
        mesh.frames(2);
        mesh.deal(0, 0, 1);
        mesh.frames(2);
        CHECK.due("deleted and added: SENT", 0, mesh.cell(0, 0, 0, 1));
        CHECK.due("deleted and added: GOT", 0, mesh.cell(0, 0, 0, 2));
    }

    private static void counts(HoppingMesh mesh, int... due) {
        for (int i = 0; i < due.length; i++) {
            CHECK.due("cell(0, 0, " + i / 3 + ", " + i % 3 + ")", due[i], mesh.cell(0, 0, i / 3, i % 3));
        }
    }

    /** By these HOPS the CHANNEL of a CELL is its SLOT; each CELL has counts of its own. */
    private static void p8SentAndGotStay() {
        CHECK.promise(8, "SENT and GOT of a CELL, as others come and go");
        HoppingMesh mesh = Check.mesh("sw6c1u0;pl0", "012345");
        mesh.deal(0, 0, 3);
        mesh.frames(2);
        mesh.jam(1);
        for (int load : new int[] {3, 1, 2, 0}) {
            mesh.load(0, load);
            mesh.frames(1);
        }
        counts(mesh, 0, 4, 4, 10, 3, 0, 20, 2, 2);
        CHECK.due("QUEUE", 0, mesh.pair(0, 4));
        mesh.deal(0, 2, 0);
        mesh.frames(2);
        counts(mesh, 10, 3, 0, 20, 2, 2, 30, 0, 0);
        mesh.deal(0, 2, 2);
        mesh.frames(2);
        mesh.deal(0, 0, 1);
        mesh.frames(2);
        counts(mesh, 0, 0, 0, 10, 3, 0, 20, 2, 2, 40, 0, 0);
        mesh.deal(0, 2, 2);
        mesh.frames(2);
        counts(mesh, 0, 0, 0, 10, 3, 0, 30, 0, 0, 40, 0, 0);
        mesh.deal(0, 1, 2);
        mesh.frames(2);
        counts(mesh, 0, 0, 0, 10, 3, 0);
        mesh.deal(0, 0, 2);
        mesh.frames(2);
        counts(mesh, 0, 0, 0, 10, 3, 0, 20, 0, 0, 30, 0, 0);
    }

    private static void p8SentAndGotOfSixAtMost() {
        CHECK.promise(8, "SENT and GOT of each of 6 CELLS: 999 at most");
        HoppingMesh mesh = Check.mesh("su0;pl9");
        mesh.deal(0, 0, 3);
        mesh.frames(2);
        mesh.deal(0, 0, 3);
        for (int i = 0; i < 24; i++) {
            mesh.frames(40);
        }
        mesh.frames(37);
        int[][] due = {{998, 996}, {999, 997}, {999, 998}, {999, 999}, {999, 999}};
        for (int[] row : due) {
            for (int i = 0; i < 6; i++) {
                CHECK.due("SENT of place " + i, row[i < 3 ? 0 : 1], mesh.cell(0, 0, i, 1));
                CHECK.due("GOT of place " + i, row[i < 3 ? 0 : 1], mesh.cell(0, 0, i, 2));
            }
            mesh.frames(1);
        }
    }

    private static void p8SentAndGotAtMost() {
        CHECK.promise(8, "SENT and GOT: 999 at most");
        HoppingMesh mesh = Check.mesh("sc1u0;p");
        mesh.deal(0, 0, 1);
        mesh.frames(2);
        mesh.jam(0);
        mesh.frames(9);
        mesh.jam(0);
        for (int i = 0; i < 24; i++) {
            mesh.frames(40);
        }
        mesh.frames(28);
        int[][] due = {{998, 989}, {999, 990}, {999, 991}};
        for (int[] row : due) {
            CHECK.due("SENT", row[0], mesh.cell(0, 0, 0, 1));
            CHECK.due("GOT", row[1], mesh.cell(0, 0, 0, 2));
            mesh.frames(1);
        }
        mesh.frames(6);
        CHECK.due("GOT", 998, mesh.cell(0, 0, 0, 2));
        mesh.frames(1);
        CHECK.due("GOT", 999, mesh.cell(0, 0, 0, 2));
        mesh.frames(1);
        CHECK.due("GOT", 999, mesh.cell(0, 0, 0, 2));
        CHECK.due("SENT", 999, mesh.cell(0, 0, 0, 1));
        CHECK.due("still one is GOT in each FRAME", 1, mesh.log(0, 2));
    }

    private static void p9NobodyWaits() {
        CHECK.promise(9, "nobody WAITS yet");
        HoppingMesh mesh = Check.mesh("p;pa1b0k3");
        for (int pair = 0; pair < 2; pair++) {
            CHECK.waits(mesh, pair, 0, 0, NONE, 0, NONE);
            CHECK.waits(mesh, pair, 1, 0, NONE, 0, NONE);
        }
    }

    private static void p9Promised() {
        CHECK.promise(9, "how many CELLS it has PROMISED");
        for (int n = 1; n <= 3; n++) {
            HoppingMesh two = Check.mesh("sw4u0;p");
            two.deal(0, 0, n);
            CHECK.waits(two, 0, 0, 1, 0, n + 1);
            CHECK.waits(two, 0, 1, 0, NONE, 0);
            HoppingMesh three = Check.mesh("sw4u0;pk3");
            three.deal(0, 0, n);
            CHECK.waits(three, 0, 0, 1, 0, 0);
            three.frames(1);
            CHECK.waits(three, 0, 0, 1, 0, 0);
            CHECK.waits(three, 0, 1, 1, 0, n + 1);
        }
        HoppingMesh mesh = Check.mesh("sw4u0;p");
        mesh.deal(0, 0, 2);
        mesh.frames(2);
        CHECK.waits(mesh, 0, 0, 0, NONE, 0);
        mesh.deal(0, 0, 3);
        CHECK.waits(mesh, 0, 0, 1, 2, 2);
        mesh.undo();
        mesh.deal(0, 2, 0);
        CHECK.waits(mesh, 0, 0, 1, 2, 2);
        mesh.undo();
        mesh.deal(0, 1, 3);
        CHECK.waits(mesh, 0, 0, 1, 2, 0);
        mesh.undo();
        mesh.deal(0, 3, 0);
        CHECK.waits(mesh, 0, 0, 1, 2, 0);
        mesh.undo();
        mesh.deal(0, 0, 1);
        mesh.frames(2);
        mesh.deal(0, 2, 0);
        CHECK.waits(mesh, 0, 0, 1, 4, 1);
        mesh.undo();
        mesh.deal(0, 0, 3);
        CHECK.waits(mesh, 0, 0, 1, 4, 1);
    }

    private static void p9FromWhichFrame() {
        CHECK.promise(9, "from which FRAME on");
        HoppingMesh mesh = Check.mesh("su0;pk3");
        mesh.frames(7);
        mesh.deal(0, 0, 1);
        CHECK.waits(mesh, 0, 0, 1, 7, 0);
        mesh.frames(1);
        CHECK.waits(mesh, 0, 0, 1, 7, 0);
        CHECK.waits(mesh, 0, 1, 1, 7, 2);
        mesh.frames(1);
        CHECK.waits(mesh, 0, 0, 0, NONE, 0);
        CHECK.waits(mesh, 0, 1, 1, 7, 2);
        mesh.frames(1);
        CHECK.waits(mesh, 0, 1, 0, NONE, 0);
        HoppingMesh auto = Check.mesh("sm2;pk3");
        auto.frames(2);
        CHECK.waits(auto, 0, 0, 1, 1, 0);
        auto.frames(1);
        CHECK.waits(auto, 0, 1, 1, 2, 2);
    }

    private static void p9NoSuchOnes() {
        CHECK.promise(9, "NONE: no such ones");
        HoppingMesh mesh = Check.mesh("su0;p");
        mesh.deal(0, 0, 1);
        for (int what = 0; what <= 2; what++) {
            CHECK.due("pair 1", NONE, mesh.waits(1, 0, what));
            CHECK.due("pair -1", NONE, mesh.waits(-1, 0, what));
            CHECK.due("side 2", NONE, mesh.waits(0, 2, what));
            CHECK.due("side -1", NONE, mesh.waits(0, -1, what));
            CHECK.due("no MESH", NONE, new HoppingMesh().waits(0, 0, what));
        }
        CHECK.due("what 3", NONE, mesh.waits(0, 0, 3));
        CHECK.due("what -1", NONE, mesh.waits(0, 0, -1));
        CHECK.due("RECEIVER's what 3", NONE, mesh.waits(0, 1, 3));
        CHECK.due("RECEIVER's what -1", NONE, mesh.waits(0, 1, -1));
        for (int far : FAR) {
            CHECK.due("pair " + far, NONE, mesh.waits(far, 0, 0));
            CHECK.due("side " + far, NONE, mesh.waits(0, far, 0));
            CHECK.due("what " + far, NONE, mesh.waits(0, 0, far));
        }
    }

    private static void p10None() {
        CHECK.promise(10, "NONE: none");
        HoppingMesh mesh = Check.mesh("su0;p");
        CHECK.letter(mesh, 0);
        mesh.deal(0, 0, 3);
        mesh.lose(0);
        CHECK.letter(mesh, 0);
        mesh.undo();
        mesh.frames(2);
        CHECK.letter(mesh, 0);
    }

    private static void p10Requests() {
        CHECK.promise(10, "a REQUEST: its SEQ, n of ADD and DELETE, its CELLS");
        for (int n = 1; n <= 3; n++) {
            HoppingMesh mesh = Check.mesh("su0;p;pa2b3k3");
            mesh.deal(0, 0, n);
            int[] cells = {0, 11, 20, 31};
            CHECK.due("SEQ", 0, mesh.letter(0, 3));
            CHECK.due("n", n, mesh.letter(0, 4));
            CHECK.due("CELLS", n + 1, mesh.letter(0, 5));
            for (int i = 0; i <= 7; i++) {
                CHECK.due("CELL " + i, i <= n ? cells[i] : NONE, mesh.letter(0, 6 + i));
            }
            mesh.deal(1, 0, n);
            CHECK.letter(mesh, 1, 0, 0, NONE, 0, n, 0);
        }
        HoppingMesh mesh = Check.mesh("su0;p");
        mesh.deal(0, 3, 0);
        CHECK.letter(mesh, 0, 0, 3, NONE, 0, NONE, 0);
        mesh.undo();
        mesh.deal(0, 0, 3);
        mesh.frames(2);
        mesh.deal(0, 1, 1);
        CHECK.letter(mesh, 0, 0, 1, NONE, 1, 1, 1, 20);
        mesh.undo();
        mesh.deal(0, 1, 3);
        CHECK.letter(mesh, 0, 0, 1, NONE, 1, 3, 3, 0, 11, 20);
        mesh.undo();
        mesh.deal(0, 2, 2);
        CHECK.letter(mesh, 0, 0, 2, NONE, 1, NONE, 3, 20, 31, 40);
    }

    private static void p10Answers() {
        CHECK.promise(10, "an answer: OK, NO, ODD, n, no SEQ");
        HoppingMesh mesh = Check.mesh("sw4u0;p");
        mesh.deal(0, 0, 3);
        mesh.frames(1);
        CHECK.letter(mesh, 0, 1, 0, 0, NONE, 3, 3, 0, 11, 20);
        mesh.frames(1);
        mesh.deal(0, 2, 0);
        mesh.frames(1);
        CHECK.letter(mesh, 0, 1, 2, 0, NONE, NONE, 2, 0, 31);
        mesh.frames(1);
        mesh.deal(0, 1, 2);
        mesh.frames(1);
        CHECK.letter(mesh, 0, 1, 1, 0, NONE, 2, 2, 20, 31);
        mesh.lose(0);
        mesh.frames(3);
        int[][] odd = {{0, 2, 2}, {1, 2, 2}, {2, 0, NONE}};
        for (int[] kind : odd) {
            mesh.deal(0, kind[0], kind[1]);
            mesh.frames(1);
            CHECK.letter(mesh, 0, 1, kind[0], 2, NONE, kind[2], 0);
            mesh.undo();
            mesh.undo();
        }
        mesh.deal(0, 3, 0);
        mesh.frames(1);
        CHECK.letter(mesh, 0, 1, 3, 0, NONE, NONE, 0);
        HoppingMesh full = Check.mesh("sw4u0;p;pa2b1;pa2b3;pa4b3k3");
        full.deal(0, 0, 3);
        full.frames(2);
        full.deal(0, 0, 1);
        full.frames(2);
        full.deal(1, 0, 2);
        full.deal(2, 0, 1);
        full.frames(1);
        CHECK.letter(full, 1, 1, 0, 1, NONE, 2, 0);
        CHECK.letter(full, 2, 1, 0, 0, NONE, 1, 1, 31);
    }

    private static void p10Confirms() {
        CHECK.promise(10, "a CONFIRM: n, perhaps no CELLS");
        for (int n = 1; n <= 3; n++) {
            HoppingMesh mesh = Check.mesh("sw4u0;pk3");
            mesh.deal(0, 0, n);
            mesh.frames(2);
            int[] cells = {0, 11, 20};
            CHECK.due("CONFIRM", 2, mesh.letter(0, 0));
            CHECK.due("ADD", 0, mesh.letter(0, 1));
            CHECK.due("no answer", NONE, mesh.letter(0, 2));
            CHECK.due("no SEQ", NONE, mesh.letter(0, 3));
            CHECK.due("n", n, mesh.letter(0, 4));
            CHECK.due("CELLS", n, mesh.letter(0, 5));
            for (int i = 0; i < 7; i++) {
                CHECK.due("CELL " + i, i < n ? cells[i] : NONE, mesh.letter(0, 6 + i));
            }
        }
        HoppingMesh none = Check.mesh("sw4u0;pa2b3;pa2b1k3");
        none.deal(0, 0, 3);
        none.frames(2);
        none.deal(0, 0, 1);
        none.frames(2);
        CHECK.due("all TAKEN at the SENDER", 15, none.node(2, 0));
        none.deal(1, 0, 3);
        none.frames(2);
        CHECK.letter(none, 1, 2, 0, NONE, NONE, 3, 0);
    }

    private static void p10NoSuchOnes() {
        CHECK.promise(10, "NONE: no such ones");
        HoppingMesh mesh = Check.mesh("su0;p");
        mesh.deal(0, 0, 3);
        CHECK.due("what 9", 31, mesh.letter(0, 9));
        CHECK.due("what 10", NONE, mesh.letter(0, 10));
        CHECK.due("what 12", NONE, mesh.letter(0, 12));
        CHECK.due("what 13", NONE, mesh.letter(0, 13));
        CHECK.due("what -1", NONE, mesh.letter(0, -1));
        CHECK.due("pair 1", NONE, mesh.letter(1, 0));
        CHECK.due("pair -1", NONE, mesh.letter(-1, 0));
        for (int far : FAR) {
            CHECK.due("pair " + far, NONE, mesh.letter(far, 0));
            CHECK.due("what " + far, NONE, mesh.letter(0, far));
        }
        CHECK.due("no MESH", NONE, new HoppingMesh().letter(0, 0));
    }

    private static void p11FrameBounds() {
        CHECK.promise(11, "in a FRAME (0 .. 9,999)");
        HoppingMesh mesh = Check.mesh("sw7c3;p");
        CHECK.due("-1", NONE, mesh.channel(-1, 0));
        CHECK.due("0", 0, mesh.channel(0, 0));
        CHECK.due("1", 1, mesh.channel(1, 0));
        CHECK.due("9998", 9998 * 7 % 3, mesh.channel(9998, 0));
        CHECK.due("9999", 9999 * 7 % 3, mesh.channel(9999, 0));
        CHECK.due("9999, the last CELL", (9999 * 7 + 6 + 2) % 3, mesh.channel(9999, 62));
        CHECK.due("10000", NONE, mesh.channel(10000, 0));
        for (int far : FAR) {
            CHECK.due("" + far, far == 100 || far == 1000 ? far * 7 % 3 : NONE, mesh.channel(far, 0));
        }
    }

    private static void p11CellBounds() {
        CHECK.promise(11, "NONE: SLOT, OFFSET out of bounds");
        int[] slots = {4, 5, 10, 15, 16};
        for (int w : slots) {
            for (int c = 1; c <= 4; c++) {
                HoppingMesh mesh = Check.mesh("sw" + w + "c" + c + ";p");
                for (int cell = -20; cell <= 180; cell++) {
                    boolean there = cell >= 0 && cell / 10 < w && cell % 10 < c;
                    CHECK.due("w" + w + "c" + c + ": channel(0, " + cell + ")",
                            there ? (cell / 10 + cell % 10) % c : NONE, mesh.channel(0, cell));
                }
                for (int far : FAR) {
                    boolean there = far == 100 && w > 10;
                    CHECK.due("channel(0, " + far + ")", there ? 10 % c : NONE, mesh.channel(0, far));
                }
            }
        }
    }

    private static void p11GoesRound() {
        CHECK.promise(11, "modulo how many HOPS there are");
        String digits = "9876543210123456";
        for (int n = 1; n <= 16; n++) {
            HoppingMesh mesh = Check.mesh("sw16c4;p", digits.substring(0, n));
            for (int slot = 0; slot < 16; slot++) {
                CHECK.due(n + " HOPS: channel(0, " + slot * 10 + ")", digits.charAt(slot % n) - '0',
                        mesh.channel(0, slot * 10));
                CHECK.due(n + " HOPS: channel(0, " + (slot * 10 + 3) + ")", digits.charAt((slot + 3) % n) - '0',
                        mesh.channel(0, slot * 10 + 3));
            }
            CHECK.due(n + " HOPS: channel(1, 0)", digits.charAt(16 % n) - '0', mesh.channel(1, 0));
            CHECK.due(n + " HOPS: channel(9999, 153)", digits.charAt((9999 * 16 + 18) % n) - '0',
                    mesh.channel(9999, 153));
        }
    }

    private static void p11WithoutHops() {
        CHECK.promise(11, "none told: that number modulo OFFSETS itself");
        for (int c = 1; c <= 4; c++) {
            HoppingMesh mesh = Check.mesh("sw5c" + c + ";p");
            for (int frame = 0; frame < 5; frame++) {
                CHECK.due("c" + c + ": channel(" + frame + ", 40)", (frame * 5 + 4) % c, mesh.channel(frame, 40));
                int last = 40 + c - 1;
                CHECK.due("c" + c + ": channel(" + frame + ", " + last + ")", (frame * 5 + 4 + c - 1) % c,
                        mesh.channel(frame, last));
            }
            Check.tell(mesh, "7", 1);
            CHECK.due("one told", 7, mesh.channel(3, 40));
        }
    }

    private static void p11NoMesh() {
        CHECK.promise(11, "NONE: no MESH");
        HoppingMesh mesh = new HoppingMesh();
        CHECK.due("no HOPS", NONE, mesh.channel(0, 0));
        Check.tell(mesh, "7", 1);
        CHECK.due("HOPS alone", NONE, mesh.channel(0, 0));
        Check.tell(mesh, "p", 0);
        CHECK.due("a MESH", 7, mesh.channel(0, 0));
    }

    private static void p12Bounds() {
        CHECK.promise(12, "LOSS (0 .. 9). False: out of bounds");
        HoppingMesh mesh = new HoppingMesh();
        for (int v : new int[] {-1, 10, Integer.MIN_VALUE, Integer.MAX_VALUE}) {
            CHECK.due("loss(" + v + ")", false, mesh.loss(v));
            CHECK.due("LOSS", 2, mesh.count(4));
        }
        for (int v : new int[] {0, 1, 9, 8, 2}) {
            CHECK.due("loss(" + v + ")", true, mesh.loss(v));
            CHECK.due("LOSS", v, mesh.count(4));
        }
        TWINS.unchanged("refused", m -> {
            Check.tell(m, "p", 0);
            m.frames(5);
        }, m -> {
            m.loss(-1);
            m.loss(10);
            m.loss(2);
        });
    }

    private static void p12ItIsSo() {
        CHECK.promise(12, "false: it is so");
        HoppingMesh mesh = new HoppingMesh();
        CHECK.due("2 at first", false, mesh.loss(2));
        for (int v = 0; v <= 9; v++) {
            CHECK.due("loss(" + v + ")", v != 2 || mesh.count(4) != 2, mesh.loss(v));
            CHECK.due("again", false, mesh.loss(v));
            CHECK.due("LOSS", v, mesh.count(4));
        }
        Check.tell(mesh, "p", 0);
        CHECK.due("another MESH", false, mesh.loss(9));
        mesh.frames(2);
        mesh.image();
        CHECK.due("loss(4)", true, mesh.loss(4));
        CHECK.due("no ACT", 2, mesh.count(6));
        mesh.undo();
        CHECK.due("not UNDONE", false, mesh.loss(4));
        mesh.back();
        CHECK.due("not of the IMAGE", false, mesh.loss(4));
        CHECK.status(mesh, 0, 0, 0, 0, 0);
    }

    private static int firstDraw(long seed) {
        long x = seed * 6364136223846793005L + 1442695040888963407L;
        return (int) ((x >>> 33) % 10);
    }

    /** One PAIR: the second draw is always that one; seeds by which no CHANNEL would make a difference. */
    private static void p12DrawsBelowLoss() {
        CHECK.promise(12, "a draw of 10 below LOSS");
        for (int loss = 0; loss <= 9; loss++) {
            int seen = 0;
            for (long seed = 0; seed < 200; seed++) {
                HoppingMesh mesh = Check.mesh("su0;p");
                mesh.loss(loss);
                mesh.deal(0, 0, 1);
                mesh.years(1, seed);
                int draw = firstDraw(seed);
                seen |= 1 << draw;
                CHECK.due("LOSS " + loss + ", draw " + draw, draw < loss ? NONE : 1, mesh.letter(0, 0));
                CHECK.due("LOSS " + loss + ", draw " + draw, draw < loss ? 0 : 1, mesh.pair(0, 10));
            }
            CHECK.due("all draws", 1023, seen);
        }
    }
}
