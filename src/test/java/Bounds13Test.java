/** The bounds that promise 13 names: how many FRAMES may go, and what goes on in each of them. */
public final class Bounds13Test {
    private static final Check CHECK = new Check();
    private static final Twins TWINS = new Twins(CHECK);
    private static final int NONE = HoppingMesh.NONE;
    private static final int[] FAR = {Integer.MIN_VALUE, -1000, -40, -1, 0, 41, 10000, Integer.MAX_VALUE};

    public static void main(String[] args) {
        noMesh();
        howMany();
        outOfBounds();
        lastFrame();
        beyond();
        lettersAreReadOneByOne();
        pairsRisingAsTheyRead();
        timeoutOfTheSender();
        timeoutOfTheReceiver();
        timeoutOfAClear();
        timeoutOfAClearAtOnce();
        timeoutAheadOfAuto();
        oneForEachThatQueues();
        gotIfTheReceiverHasIt();
        gotIfNoOtherSends();
        gotIfNotJammed();
        usedAndPassed();
        endOfAWindow();
        withoutAuto();
        addAbove();
        addWithoutCells();
        deleteBelow();
        badBySent();
        badByHalf();
        badOfSeveral();
        addAndDeleteAheadOfMove();
        leftAsItCannotBegin();
        leftAsOneIsOpen();
        fullTableAsksAndGetsNo();
        pairsRisingAsTheyBegin();
        lastSlot();
        sixPairs();
        CHECK.end("Bounds13Test", 13, 13);
    }

    private static void noMesh() {
        CHECK.promise(13, "NONE: no MESH (STATUS 0)");
        HoppingMesh mesh = new HoppingMesh();
        CHECK.due("frames(1)", NONE, mesh.frames(1));
        CHECK.due("of several the first", NONE, mesh.frames(0));
        CHECK.due("of several the first", NONE, mesh.frames(41));
        CHECK.status(mesh, 3, 0, 0, 0, 0);
        CHECK.due("FRAME", 0, mesh.count(3));
        CHECK.due("LOG", 0, mesh.count(5));
        CHECK.due("ACTS", 0, mesh.count(6));
    }

    private static void howMany() {
        CHECK.promise(13, "FRAMES (1 .. 40): the FRAME");
        HoppingMesh mesh = Check.mesh("p");
        CHECK.due("frames(1)", 1, mesh.frames(1));
        CHECK.due("ACTS", 1, mesh.count(6));
        CHECK.due("LOG", 1, mesh.count(5));
        CHECK.due("frames(2)", 3, mesh.frames(2));
        CHECK.due("ACTS", 3, mesh.count(6));
        CHECK.due("frames(39)", 42, mesh.frames(39));
        CHECK.due("frames(40)", 82, mesh.frames(40));
        CHECK.due("ACTS", 40, mesh.count(6));
        CHECK.due("LOG", 60, mesh.count(5));
        CHECK.status(mesh, 0, 0, 0, 0, 0);
    }

    private static void outOfBounds() {
        CHECK.promise(13, "NONE: out of bounds (1)");
        for (int n : FAR) {
            TWINS.unchanged("frames(" + n + ")", m -> {
                Check.tell(m, "pl2;pa2b0k3", 0);
                m.frames(9);
                m.image();
                m.frames(1);
            }, m -> CHECK.due("frames(" + n + ")", NONE, m.frames(n)), 0, 1);
        }
    }

    private static HoppingMesh at(int frame, String text) {
        HoppingMesh mesh = Check.mesh(text);
        for (int i = 0; i < frame / 40; i++) {
            mesh.frames(40);
        }
        if (frame % 40 > 0) {
            mesh.frames(frame % 40);
        }
        return mesh;
    }

    private static void lastFrame() {
        CHECK.promise(13, "9,999 at most: none goes by then");
        HoppingMesh mesh = at(9998, "su0;pl0");
        CHECK.due("9998", 9998, mesh.count(3));
        CHECK.due("frames(1)", 9999, mesh.frames(1));
        mesh.load(0, 1);
        CHECK.due("frames(1)", NONE, mesh.frames(1));
        CHECK.status(mesh, 0, 0, 0, 0, 1);
        CHECK.due("FRAME", 9999, mesh.count(3));
        CHECK.due("QUEUE", 0, mesh.pair(0, 4));
        CHECK.due("CHANNEL of the last FRAME", 9999 * 10 % 2, mesh.channel(9999, 0));
        CHECK.due("other ACTS go on", 1, mesh.jam(3));
        CHECK.due("other ACTS go on", 2, mesh.deal(0, 0, 1));
        CHECK.due("it WAITS from then on", 9999, mesh.waits(0, 0, 1));
        CHECK.due("image", 9999, mesh.image());
        CHECK.due("COMES apart", 3, mesh.comes(0, 3, 0) + mesh.comes(0, 3, 1));
        CHECK.due("HEALED apart", 0, mesh.healed());
        for (int i = 0; i < 3; i++) {
            mesh.undo();
        }
        mesh.undo();
        CHECK.due("undone", 9998, mesh.count(3));
        CHECK.due("again", 9999, mesh.frames(1));
    }

    private static void beyond() {
        CHECK.promise(13, "NONE: beyond 9,999 (4)");
        HoppingMesh mesh = at(9960, "su0;p");
        CHECK.due("frames(40)", NONE, mesh.frames(40));
        CHECK.status(mesh, 0, 0, 0, 0, 1);
        CHECK.due("not one of them went", 9960, mesh.count(3));
        CHECK.due("frames(39)", 9999, mesh.frames(39));
        CHECK.due("out of bounds is first", NONE, mesh.frames(41));
        CHECK.due("out of bounds is first", NONE, mesh.frames(0));
        CHECK.due("frames(40)", NONE, mesh.frames(40));
        CHECK.status(mesh, 0, 2, 0, 0, 2);
        HoppingMesh other = at(9959, "su0;p");
        CHECK.due("frames(40)", 9999, other.frames(40));
        HoppingMesh first = at(9960, "su0;pl2");
        HoppingMesh second = at(9960, "su0;pl2");
        second.frames(40);
        TWINS.alike("refused", first, second);
    }

    private static void lettersAreReadOneByOne() {
        CHECK.promise(13, "what is sent by that is read in the next FRAME");
        HoppingMesh mesh = Check.mesh("su0;p;pa2b3k3");
        mesh.deal(0, 0, 1);
        mesh.deal(1, 0, 1);
        int[][] sorts = {{0, 0}, {1, 1}, {NONE, 2}, {NONE, NONE}};
        for (int[] row : sorts) {
            CHECK.due("letter(0, 0)", row[0], mesh.letter(0, 0));
            CHECK.due("letter(1, 0)", row[1], mesh.letter(1, 0));
            mesh.frames(1);
        }
        CHECK.tables(mesh, 0, 0);
        CHECK.tables(mesh, 1, 1);
    }

    private static void pairsRisingAsTheyRead() {
        CHECK.promise(13, "LETTERS are read, PAIRS rising");
        HoppingMesh mesh = Check.mesh("sc1u0;pa0b1;pa2b1;pa3b1k3");
        mesh.deal(2, 0, 1);
        mesh.deal(1, 0, 1);
        mesh.deal(0, 0, 1);
        mesh.frames(1);
        CHECK.letter(mesh, 0, 1, 0, 0, NONE, 1, 1, 0);
        CHECK.letter(mesh, 1, 1, 0, 0, NONE, 1, 1, 10);
        CHECK.letter(mesh, 2, 1, 0, 0, NONE, 1, 2, 20, 30);
    }

    private static void timeoutOfTheSender() {
        CHECK.promise(13, "TIMEOUT of a SENDER: TIMEOUT or more behind");
        for (int t = 2; t <= 9; t++) {
            HoppingMesh mesh = Check.mesh("su0t" + t + ";p");
            mesh.frames(5);
            mesh.deal(0, 0, 2);
            mesh.lose(0);
            for (int i = 0; i < t; i++) {
                mesh.frames(1);
                CHECK.waits(mesh, 0, 0, 1, 5, 3);
            }
            CHECK.due("t" + t + ": TAKEN", 7, mesh.node(0, 0));
            CHECK.due("t" + t + ": can't be begun", NONE, mesh.deal(0, 3, 0));
            mesh.frames(1);
            CHECK.waits(mesh, 0, 0, 0, NONE, 0);
            CHECK.due("t" + t + ": FREE", 0, mesh.node(0, 0));
            CHECK.due("t" + t + ": SEQ", 0, mesh.pair(0, 7));
            CHECK.due("t" + t + ": can be begun", 0, mesh.deal(0, 3, 0));
        }
    }

    private static void timeoutOfTheReceiver() {
        CHECK.promise(13, "TIMEOUT of a RECEIVER: TIMEOUT or more behind");
        for (int t = 2; t <= 9; t++) {
            HoppingMesh mesh = Check.mesh("su0t" + t + ";pk3");
            mesh.deal(0, 0, 2);
            mesh.frames(1);
            mesh.lose(0);
            for (int frame = 1; frame < t; frame++) {
                CHECK.waits(mesh, 0, 0, 1, 0, 0);
                CHECK.waits(mesh, 0, 1, 1, 0, 3);
                mesh.frames(1);
            }
            CHECK.waits(mesh, 0, 1, 1, 0, 3);
            CHECK.due("TAKEN", 7, mesh.node(1, 0));
            mesh.frames(1);
            CHECK.waits(mesh, 0, 0, 0, NONE, 0);
            CHECK.waits(mesh, 0, 1, 0, NONE, 0);
            CHECK.due("FREE", 0, mesh.node(1, 0));
            CHECK.due("AGREE", 1, mesh.agree(0));
        }
    }

    private static void timeoutOfAClear() {
        CHECK.promise(13, "TIMEOUT of a CLEAR: its TABLE is empty, SEQ 0");
        for (int t = 2; t <= 9; t++) {
            HoppingMesh mesh = Check.mesh("su0t" + t + ";p");
            mesh.deal(0, 0, 2);
            mesh.frames(2);
            mesh.deal(0, 3, 0);
            mesh.lose(0);
            for (int i = 0; i < t; i++) {
                mesh.frames(1);
                CHECK.table(mesh, 0, 0, 0, 11);
                CHECK.due("SEQ", 1, mesh.pair(0, 7));
            }
            mesh.frames(1);
            CHECK.table(mesh, 0, 0);
            CHECK.due("SEQ", 0, mesh.pair(0, 7));
            CHECK.table(mesh, 0, 1, 0, 11);
            CHECK.due("RECEIVER's SEQ", 1, mesh.pair(0, 8));
            CHECK.waits(mesh, 0, 0, 0, NONE, 0);
        }
        int[] kinds = {0, 1, 2};
        for (int kind : kinds) {
            HoppingMesh mesh = Check.mesh("su0t2;p");
            mesh.deal(0, 0, 2);
            mesh.frames(2);
            mesh.deal(0, kind, 1);
            mesh.lose(0);
            mesh.frames(3);
            CHECK.waits(mesh, 0, 0, 0, NONE, 0);
            CHECK.tables(mesh, 0, 0, 11);
            CHECK.due("SEQ", 1, mesh.pair(0, 7));
        }
    }

    /** The answer to a DELETE is LOST: ODD, a CLEAR from that FRAME on, and that is LOST, too. */
    private static void timeoutOfAClearAtOnce() {
        CHECK.promise(13, "TIMEOUT counts from the FRAME of the CLEAR begun at once");
        HoppingMesh mesh = Check.mesh("su0t2;p");
        mesh.deal(0, 0, 2);
        mesh.frames(2);
        mesh.deal(0, 1, 1);
        mesh.frames(1);
        mesh.lose(0);
        mesh.frames(2);
        mesh.deal(0, 1, 1);
        mesh.frames(2);
        CHECK.letter(mesh, 0, 0, 3, NONE, 1, NONE, 0);
        CHECK.waits(mesh, 0, 0, 1, 6, 0);
        mesh.lose(0);
        mesh.frames(1);
        CHECK.waits(mesh, 0, 0, 1, 6, 0);
        CHECK.table(mesh, 0, 0, 0, 11);
        mesh.frames(1);
        CHECK.waits(mesh, 0, 0, 0, NONE, 0);
        CHECK.table(mesh, 0, 0);
        CHECK.table(mesh, 0, 1, 0);
        CHECK.due("SEQ", 0, mesh.pair(0, 7));
        CHECK.due("SEQ", 2, mesh.pair(0, 8));
    }

    private static void timeoutAheadOfAuto() {
        CHECK.promise(13, "TIMEOUTS are ahead of the end of a WINDOW");
        HoppingMesh mesh = Check.mesh("st3m4;p");
        mesh.deal(0, 0, 3);
        mesh.lose(0);
        mesh.frames(4);
        CHECK.letter(mesh, 0, 0, 0, NONE, 0, 1, 2, 0, 11);
        CHECK.waits(mesh, 0, 0, 1, 3, 2);
        HoppingMesh later = Check.mesh("st4m4;p");
        later.deal(0, 0, 3);
        later.lose(0);
        later.frames(4);
        CHECK.letter(later, 0);
        CHECK.waits(later, 0, 0, 1, 0, 4);
    }

    private static void counts(HoppingMesh mesh, int pair, int... due) {
        for (int i = 0; i < due.length; i++) {
            CHECK.due("cell(" + pair + ", 0, " + i / 2 + ", " + (1 + i % 2) + ")", due[i],
                    mesh.cell(pair, 0, i / 2, 1 + i % 2));
        }
    }

    private static void oneForEachThatQueues() {
        CHECK.promise(13, "the first CELLS, one for each that QUEUES");
        HoppingMesh mesh = Check.mesh("su0;pl0");
        mesh.deal(0, 0, 3);
        mesh.frames(3);
        counts(mesh, 0, 0, 0, 0, 0, 0, 0);
        mesh.load(0, 1);
        mesh.frames(1);
        counts(mesh, 0, 1, 1, 0, 0, 0, 0);
        mesh.load(0, 2);
        mesh.frames(1);
        counts(mesh, 0, 2, 2, 1, 1, 0, 0);
        mesh.load(0, 3);
        mesh.frames(1);
        counts(mesh, 0, 3, 3, 2, 2, 1, 1);
        CHECK.due("QUEUE", 0, mesh.pair(0, 4));
        mesh.load(0, 4);
        mesh.frames(1);
        counts(mesh, 0, 4, 4, 3, 3, 2, 2);
        CHECK.due("QUEUE", 1, mesh.pair(0, 4));
        mesh.load(0, 0);
        mesh.frames(1);
        counts(mesh, 0, 5, 5, 3, 3, 2, 2);
        CHECK.due("QUEUE", 0, mesh.pair(0, 4));
        HoppingMesh none = Check.mesh("su0;pl9");
        none.frames(1);
        CHECK.due("no CELL: QUEUE", 9, none.pair(0, 4));
        CHECK.due("no CELL: USED", 0, none.pair(0, 5));
    }

    private static void gotIfTheReceiverHasIt() {
        CHECK.promise(13, "GOT, if the RECEIVER's TABLE has that CELL");
        HoppingMesh mesh = Check.mesh("su0;pl2");
        mesh.deal(0, 0, 2);
        mesh.frames(1);
        CHECK.due("SENDER's TABLE is empty", 2, mesh.pair(0, 4));
        mesh.frames(1);
        counts(mesh, 0, 1, 1, 1, 1);
        mesh.deal(0, 1, 1);
        mesh.frames(1);
        counts(mesh, 0, 2, 2, 2, 1);
        CHECK.due("QUEUE", 3, mesh.pair(0, 4));
        CHECK.due("LOG", 1, mesh.log(0, 2));
        mesh.frames(1);
        counts(mesh, 0, 3, 3);
        HoppingMesh odd = Check.mesh("sw4c1u0;pl0");
        odd.deal(0, 0, 2);
        odd.frames(2);
        odd.deal(0, 2, 0);
        odd.frames(1);
        odd.lose(0);
        CHECK.table(odd, 0, 0, 0, 10);
        CHECK.table(odd, 0, 1, 10, 20);
        odd.load(0, 2);
        odd.frames(1);
        counts(odd, 0, 1, 0, 1, 1);
        CHECK.due("QUEUE", 1, odd.pair(0, 4));
    }

    private static void gotIfNoOtherSends() {
        CHECK.promise(13, "GOT, if no other PAIR sends in a CELL of that number");
        int[][] loads = {{1, 1, 1, 0}, {1, 1, 0, 0}, {1, 0, 1, 0}, {0, 1, 1, 0}, {1, 0, 0, 1}, {0, 0, 1, 1}, {0, 0, 0, 0}};
        for (int[] row : loads) {
            HoppingMesh mesh = Check.mesh("sc1u0;pl0;pa2b3l0;pa4b5l0");
            for (int p = 0; p < 3; p++) {
                mesh.deal(p, 0, 1);
            }
            mesh.frames(2);
            for (int p = 0; p < 3; p++) {
                mesh.load(p, row[p]);
            }
            mesh.frames(1);
            for (int p = 0; p < 3; p++) {
                counts(mesh, p, row[p], row[p] * row[3]);
                CHECK.due("QUEUE", row[p] * (1 - row[3]), mesh.pair(p, 4));
            }
            CHECK.due("LOG", row[3], mesh.log(0, 2));
        }
        HoppingMesh offsets = Check.mesh("sc2u0;p;pa2b3");
        offsets.deal(0, 0, 1);
        offsets.deal(1, 0, 1);
        offsets.frames(2);
        counts(offsets, 0, 1, 1);
        counts(offsets, 1, 1, 1);
        HoppingMesh deaf = Check.mesh("sc1u0;p;pa2b3k3");
        deaf.deal(0, 0, 1);
        deaf.deal(1, 0, 1);
        deaf.frames(2);
        deaf.lose(1);
        deaf.frames(1);
        counts(deaf, 0, 2, 0);
        counts(deaf, 1, 2, 0);
    }

    private static void gotIfNotJammed() {
        CHECK.promise(13, "GOT, if its CHANNEL is not JAMMED");
        HoppingMesh mesh = Check.mesh("sw5c1u0;p", "012");
        mesh.deal(0, 0, 1);
        mesh.frames(3);
        counts(mesh, 0, 2, 2);
        mesh.jam(1);
        int got = 2;
        for (int frame = 3; frame < 12; frame++) {
            mesh.frames(1);
            got += frame * 5 % 3 == 1 ? 0 : 1;
            counts(mesh, 0, frame, got);
        }
        CHECK.due("a third did not come", 8, mesh.cell(0, 0, 0, 2));
    }

    private static void usedAndPassed() {
        CHECK.promise(13, "USED: how many were sent, PASSED: how many CELLS, both 0 at first");
        HoppingMesh mesh = Check.mesh("sm9u0;p");
        int[][] due = {{0, 0}, {2, 2}, {3, 4}, {4, 6}};
        mesh.deal(0, 0, 2);
        CHECK.due("USED", 0, mesh.pair(0, 5));
        CHECK.due("PASSED", 0, mesh.pair(0, 6));
        for (int[] row : due) {
            mesh.frames(1);
            CHECK.due("USED", row[0], mesh.pair(0, 5));
            CHECK.due("PASSED", row[1], mesh.pair(0, 6));
        }
        mesh.jam(0);
        mesh.jam(1);
        mesh.frames(1);
        CHECK.due("JAMMED: USED", 5, mesh.pair(0, 5));
        mesh.frames(1);
        CHECK.due("JAMMED: USED", 7, mesh.pair(0, 5));
        CHECK.due("JAMMED: PASSED", 10, mesh.pair(0, 6));
    }

    private static void endOfAWindow() {
        CHECK.promise(13, "the last FRAME of a WINDOW");
        for (int m = 2; m <= 9; m++) {
            HoppingMesh mesh = Check.mesh("sm" + m + "t2;p");
            for (int i = 1; i < m; i++) {
                mesh.frames(1);
                CHECK.letter(mesh, 0);
            }
            mesh.frames(1);
            CHECK.letter(mesh, 0, 0, 0, NONE, 0, 1, 2, 0, 11);
            CHECK.waits(mesh, 0, 0, 1, m - 1, 2);
            HoppingMesh idle = Check.mesh("sm" + m + "u0;p");
            idle.deal(0, 0, 1);
            for (int frame = 0; frame < 3 * m; frame++) {
                idle.frames(1);
                boolean last = frame % m == m - 1;
                int since = Math.min(frame % m + 1, frame);
                CHECK.due("m" + m + ", FRAME " + frame + ": USED", last ? 0 : since, idle.pair(0, 5));
                CHECK.due("m" + m + ", FRAME " + frame + ": PASSED", last ? 0 : since, idle.pair(0, 6));
            }
        }
    }

    private static void withoutAuto() {
        CHECK.promise(13, "if AUTO");
        HoppingMesh mesh = Check.mesh("sm2u0;pl9");
        mesh.frames(8);
        CHECK.letter(mesh, 0);
        mesh.auto();
        mesh.frames(1);
        CHECK.letter(mesh, 0);
        mesh.frames(1);
        CHECK.due("AUTO", 0, mesh.letter(0, 1));
    }

    /** So many CELLS in a new WINDOW of four FRAMES, with AUTO and without QUEUE. */
    private static HoppingMesh withCells(int cells) {
        HoppingMesh mesh = Check.mesh("sm4u0;pl0");
        if (cells > 0) {
            mesh.deal(0, 0, cells);
        }
        mesh.frames(4);
        mesh.auto();
        CHECK.due("CELLS", cells, mesh.pair(0, 9));
        return mesh;
    }

    private static void window(HoppingMesh mesh, int... loads) {
        for (int load : loads) {
            if (mesh.pair(0, 3) != load) {
                mesh.load(0, load);
            }
            mesh.frames(1);
        }
    }

    private static void addAbove() {
        CHECK.promise(13, "4 times USED above 3 times PASSED: ADD 1");
        HoppingMesh alike = withCells(1);
        window(alike, 1, 1, 1, 0);
        CHECK.letter(alike, 0);
        HoppingMesh above = withCells(1);
        window(above, 1, 1, 1, 1);
        CHECK.letter(above, 0, 0, 0, NONE, 1, 1, 2, 11, 20);
        HoppingMesh alikeOfTwo = withCells(2);
        window(alikeOfTwo, 2, 2, 2, 0);
        CHECK.letter(alikeOfTwo, 0);
        HoppingMesh aboveOfTwo = withCells(2);
        window(aboveOfTwo, 2, 2, 2, 1);
        CHECK.letter(aboveOfTwo, 0, 0, 0, NONE, 1, 1, 2, 20, 31);
        HoppingMesh three = withCells(3);
        window(three, 3, 3, 3, 0);
        CHECK.letter(three, 0);
    }

    /** As withCells, but the SENDER has so many CELLS and the RECEIVER so many: an answer was LOST. */
    private static HoppingMesh atOdds(int senders, int receivers) {
        HoppingMesh mesh = Check.mesh("sm4u0;pl0");
        if (senders > 0) {
            mesh.deal(0, 0, senders);
            mesh.frames(4);
        }
        mesh.deal(0, receivers > senders ? 0 : 1, Math.abs(receivers - senders));
        mesh.frames(1);
        mesh.lose(0);
        mesh.frames(3);
        mesh.auto();
        CHECK.due("SENDER's CELLS", senders, mesh.pair(0, 9));
        CHECK.due("RECEIVER's CELLS", receivers, mesh.pair(0, 10));
        return mesh;
    }

    private static void addWithoutCells() {
        CHECK.promise(13, "no CELL and QUEUES any: ADD 1");
        HoppingMesh none = withCells(0);
        window(none, 0, 0, 0, 0);
        CHECK.letter(none, 0);
        HoppingMesh one = withCells(0);
        window(one, 0, 0, 0, 1);
        CHECK.letter(one, 0, 0, 0, NONE, 0, 1, 2, 0, 11);
        HoppingMesh idle = withCells(1);
        window(idle, 0, 0, 0, 0);
        CHECK.letter(idle, 0);
        HoppingMesh senders = atOdds(0, 1);
        window(senders, 0, 0, 0, 1);
        CHECK.letter(senders, 0, 0, 0, NONE, 0, 1, 2, 0, 11);
        HoppingMesh receivers = atOdds(1, 0);
        window(receivers, 0, 0, 1, 0);
        CHECK.letter(receivers, 0);
    }

    private static void deleteBelow() {
        CHECK.promise(13, "4 times USED below PASSED and two CELLS or more: DELETE 1");
        HoppingMesh alike = withCells(2);
        window(alike, 1, 0, 1, 0);
        CHECK.letter(alike, 0);
        HoppingMesh below = withCells(2);
        window(below, 1, 0, 0, 0);
        CHECK.letter(below, 0, 0, 1, NONE, 1, 1, 1, 11);
        HoppingMesh three = withCells(3);
        window(three, 0, 2, 0, 1);
        CHECK.letter(three, 0);
        HoppingMesh belowOfThree = withCells(3);
        window(belowOfThree, 0, 2, 0, 0);
        CHECK.letter(belowOfThree, 0, 0, 1, NONE, 1, 1, 1, 20);
        HoppingMesh one = withCells(1);
        window(one, 0, 0, 0, 0);
        CHECK.letter(one, 0);
        HoppingMesh senders = atOdds(2, 1);
        window(senders, 0, 0, 0, 0);
        CHECK.letter(senders, 0, 0, 1, NONE, 1, 1, 1, 11);
        HoppingMesh receivers = atOdds(1, 2);
        window(receivers, 0, 0, 0, 0);
        CHECK.letter(receivers, 0);
        HoppingMesh five = Check.mesh("sm5u0;pl0");
        five.deal(0, 0, 2);
        five.frames(5);
        five.auto();
        window(five, 1, 0, 1, 0, 0);
        CHECK.letter(five, 0, 0, 1, NONE, 1, 1, 1, 11);
    }

    /** By these HOPS the CHANNEL of a CELL is its SLOT; one CELL more than are used, so that no ADD is due. */
    private static HoppingMesh withSlots(int slots, int cells, int... jammed) {
        HoppingMesh mesh = Check.mesh("sw" + slots + "c1m4u0;pl0", "012345".substring(0, slots));
        mesh.deal(0, 0, Math.min(3, cells));
        mesh.frames(2);
        if (cells > 3) {
            mesh.deal(0, 0, cells - 3);
        }
        mesh.frames(2);
        CHECK.due("CELLS", cells, mesh.pair(0, 9));
        for (int channel : jammed) {
            mesh.jam(channel);
        }
        mesh.auto();
        return mesh;
    }

    private static void badBySent() {
        CHECK.promise(13, "BAD: SENT 4 or more: MOVE of it");
        HoppingMesh four = withSlots(4, 3, 1);
        window(four, 2, 1, 1, 1);
        counts(four, 0, 4, 4, 4, 0, 0, 0);
        CHECK.letter(four, 0, 0, 2, NONE, 1, NONE, 2, 10, 30);
        HoppingMesh three = withSlots(4, 3, 1);
        window(three, 0, 2, 1, 1);
        counts(three, 0, 3, 3, 3, 0, 0, 0);
        CHECK.letter(three, 0);
        HoppingMesh alone = withSlots(4, 3, 0);
        window(alone, 1, 0, 0, 0);
        counts(alone, 0, 4, 0, 0, 0, 0, 0);
        CHECK.letter(alone, 0);
    }

    private static void badByHalf() {
        CHECK.promise(13, "BAD: GOT by SENT less than half of the greatest");
        HoppingMesh half = withSlots(4, 3);
        window(half, 2, 2);
        half.jam(1);
        window(half, 2, 1);
        counts(half, 0, 4, 4, 4, 2, 0, 0);
        CHECK.letter(half, 0);
        HoppingMesh less = withSlots(4, 3);
        window(less, 2);
        less.jam(1);
        window(less, 2, 1, 1);
        counts(less, 0, 4, 4, 4, 1, 0, 0);
        CHECK.letter(less, 0, 0, 2, NONE, 1, NONE, 2, 10, 30);
        HoppingMesh none = withSlots(4, 3, 0, 1);
        window(none, 2, 0, 0, 0);
        counts(none, 0, 4, 0, 4, 0, 0, 0);
        CHECK.letter(none, 0);
        HoppingMesh last = withSlots(4, 3, 0);
        window(last, 2, 1, 1, 1);
        counts(last, 0, 4, 0, 4, 4, 0, 0);
        CHECK.letter(last, 0, 0, 2, NONE, 1, NONE, 2, 0, 30);
    }

    private static void badOfSeveral() {
        CHECK.promise(13, "BAD: the one with least GOT by SENT, of several the first");
        HoppingMesh first = withSlots(6, 4, 0, 1);
        window(first, 3, 1, 1, 1);
        counts(first, 0, 4, 0, 4, 0, 4, 4, 0, 0);
        CHECK.letter(first, 0, 0, 2, NONE, 2, NONE, 3, 0, 40, 50);
        HoppingMesh least = withSlots(6, 4, 1);
        window(least, 3);
        least.jam(0);
        window(least, 2, 1, 1);
        counts(least, 0, 4, 1, 4, 0, 4, 4, 0, 0);
        CHECK.letter(least, 0, 0, 2, NONE, 2, NONE, 3, 10, 40, 50);
    }

    private static void addAndDeleteAheadOfMove() {
        CHECK.promise(13, "ADD, else DELETE, else MOVE");
        HoppingMesh add = withSlots(6, 3, 1);
        window(add, 3, 2, 2, 2);
        CHECK.due("BAD", 10, add.most(9));
        CHECK.due("ADD", 0, add.letter(0, 1));
        HoppingMesh delete = withSlots(6, 3, 1);
        delete.auto();
        window(delete, 2, 1, 1, 1);
        delete.jam(1);
        window(delete, 0, 0, 0, 0);
        CHECK.due("BAD", 10, delete.most(9));
        delete.auto();
        window(delete, 0, 0, 0, 0);
        CHECK.letter(delete, 0, 0, 1, NONE, 1, 1, 1, 20);
    }

    private static void leftAsItCannotBegin() {
        CHECK.promise(13, "what can't be begun is left");
        HoppingMesh move = withSlots(4, 4, 1);
        window(move, 3, 2, 2, 2);
        CHECK.due("BAD", 10, move.most(9));
        CHECK.letter(move, 0);
        CHECK.waits(move, 0, 0, 0, NONE, 0);
        CHECK.due("USED", 0, move.pair(0, 5));
        CHECK.due("PASSED", 0, move.pair(0, 6));
        HoppingMesh add = withSlots(4, 4, 1);
        window(add, 4, 3, 3, 3);
        CHECK.due("BAD", 10, add.most(9));
        CHECK.letter(add, 0);
        CHECK.due("USED", 0, add.pair(0, 5));
        CHECK.due("PASSED", 0, add.pair(0, 6));
        HoppingMesh threeSteps = Check.mesh("sw4m4u0;pk3l9;pa0b2l0");
        threeSteps.deal(1, 0, 3);
        threeSteps.frames(2);
        threeSteps.deal(1, 0, 1);
        threeSteps.frames(2);
        threeSteps.auto();
        threeSteps.frames(4);
        CHECK.due("all TAKEN", 15, threeSteps.node(0, 0));
        CHECK.letter(threeSteps, 0, 0, 0, NONE, 0, 1, 0);
    }

    private static void leftAsOneIsOpen() {
        CHECK.promise(13, "if a DEALING can be begun");
        HoppingMesh waiting = Check.mesh("sm4t9;pl3");
        waiting.deal(0, 3, 0);
        waiting.lose(0);
        waiting.frames(4);
        CHECK.letter(waiting, 0);
        CHECK.waits(waiting, 0, 0, 1, 0, 0);
        HoppingMesh underWay = Check.mesh("sm4;pk3l3");
        underWay.frames(2);
        underWay.deal(0, 0, 2);
        underWay.frames(2);
        CHECK.due("the CONFIRM is still there", 2, underWay.letter(0, 0));
        CHECK.due("the SENDER does not WAIT", 0, underWay.waits(0, 0, 0));
        CHECK.due("USED", 0, underWay.pair(0, 5));
        underWay.frames(4);
        CHECK.due("next WINDOW", 0, underWay.letter(0, 0));
    }

    private static void fullTableAsksAndGetsNo() {
        CHECK.promise(13, "ADD 1 with a full TABLE");
        HoppingMesh mesh = Check.mesh("sm2;pl9");
        mesh.frames(40);
        CHECK.due("six", 6, mesh.pair(0, 9));
        int seq = mesh.pair(0, 7);
        CHECK.letter(mesh, 0, 0, 0, NONE, seq, 1, 2, 60, 71);
        mesh.frames(1);
        CHECK.letter(mesh, 0, 1, 0, 1, NONE, 1, 0);
        mesh.frames(1);
        CHECK.due("six", 6, mesh.pair(0, 9));
        CHECK.due("SEQ", seq, mesh.pair(0, 7));
        CHECK.due("SEQ", seq, mesh.pair(0, 8));
    }

    private static void lastSlot() {
        CHECK.promise(13, "CELLS of the last SLOT and OFFSET come over");
        for (int offsets = 1; offsets <= 4; offsets++) {
            HoppingMesh mesh = Check.mesh("sw16c" + offsets + "u0;pl0");
            mesh.deal(0, 0, 1);
            for (int i = 0; i < 15; i++) {
                mesh.frames(2);
                mesh.deal(0, 2, 0);
            }
            mesh.frames(2);
            CHECK.tables(mesh, 0, 150 + 15 % offsets);
            mesh.load(0, 1);
            mesh.frames(1);
            counts(mesh, 0, 1, 1);
        }
    }

    /** Each has its own QUEUE, LETTERS and CELLS; the last one is dealt with in 3 STEPS. */
    private static void sixPairs() {
        CHECK.promise(13, "of six PAIRS each");
        HoppingMesh mesh = Check.mesh("sw16c1u0;pb1l1;pb2l2;pb3l3;pb4l4;pb5l5;pa1b0k3l6");
        for (int p = 0; p < 6; p++) {
            mesh.deal(p, 0, 1);
            mesh.frames(3);
        }
        for (int p = 0; p < 6; p++) {
            CHECK.due("CELLS of PAIR " + p, 1, mesh.pair(p, 9));
            CHECK.due("AGREE", 1, mesh.agree(p));
            CHECK.table(mesh, p, 0, 10 * p);
            CHECK.due("SENT of PAIR " + p, 17 - 3 * p, mesh.cell(p, 0, 0, 1));
            CHECK.due("GOT of PAIR " + p, p < 5 ? 17 - 3 * p : 1, mesh.cell(p, 0, 0, 2));
            CHECK.due("QUEUE of PAIR " + p, p < 5 ? 18 * (p + 1) - (17 - 3 * p) : 98, mesh.pair(p, 4));
        }
        CHECK.due("LOG: CELLS", 6, mesh.log(0, 1));
        CHECK.due("LOG: GOT", 6, mesh.log(0, 2));
    }

    private static void pairsRisingAsTheyBegin() {
        CHECK.promise(13, "at the end of a WINDOW, for each PAIR, rising");
        HoppingMesh mesh = Check.mesh("sc1m2;pa0b1;pa0b2;pa0b3");
        mesh.frames(2);
        CHECK.letter(mesh, 0, 0, 0, NONE, 0, 1, 2, 0, 10);
        CHECK.letter(mesh, 1, 0, 0, NONE, 0, 1, 2, 20, 30);
        CHECK.letter(mesh, 2, 0, 0, NONE, 0, 1, 2, 40, 50);
        CHECK.due("LOG: LETTERS under way then", 3, mesh.log(0, 0));
        CHECK.due("LOG: ahead of that", 0, mesh.log(1, 0));
    }
}
