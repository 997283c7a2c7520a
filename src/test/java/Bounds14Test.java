/** The bounds that promise 14 names: which DEALINGS can be begun, and how they are answered at the bounds. */
public final class Bounds14Test {
    private static final Check CHECK = new Check();
    private static final Twins TWINS = new Twins(CHECK);
    private static final int NONE = HoppingMesh.NONE;
    private static final int ADD = 0;
    private static final int DELETE = 1;
    private static final int MOVE = 2;
    private static final int CLEAR = 3;

    public static void main(String[] args) {
        noSuchPair();
        outOfBounds();
        noSuchCell();
        whileItWaits();
        whileALetterIsUnderWay();
        addOfOffers();
        addOfThreeSteps();
        deleteOfCells();
        moveOfCells();
        moveGoesRound();
        clear();
        refusedChangesNothing();
        anAct();
        fromTheSendersTable();
        answerOdd();
        clearWithUnlikeSeq();
        acceptFree();
        acceptRoom();
        offersOfTheReceiver();
        roomOfTheSender();
        freeAtTheSender();
        moveAtTheReceiver();
        moveOfTheOffersAlone();
        slotsOfTwoDigits();
        promisedSlotsAreTaken();
        requestToOneThatWaits();
        nextSeq();
        CHECK.end("Bounds14Test", 14, 14);
    }

    private static void settle(HoppingMesh mesh, int pair, int kind, int n) {
        mesh.deal(pair, kind, n);
        mesh.frames(2);
    }

    private static void noSuchPair() {
        CHECK.promise(14, "NONE: no such PAIR (STATUS 0)");
        HoppingMesh none = new HoppingMesh();
        CHECK.due("no MESH", NONE, none.deal(0, CLEAR, 0));
        CHECK.due("of several the first", NONE, none.deal(0, 9, 9));
        CHECK.status(none, 2, 0, 0, 0, 0);
        HoppingMesh mesh = Check.mesh("p;pa1b0");
        int[] wrong = {-1, 2, 6, Integer.MIN_VALUE, Integer.MAX_VALUE};
        for (int pair : wrong) {
            CHECK.due("deal(" + pair + ", 3, 0)", NONE, mesh.deal(pair, CLEAR, 0));
            CHECK.due("of several the first", NONE, mesh.deal(pair, -1, 0));
        }
        CHECK.status(mesh, 10, 0, 0, 0, 0);
        CHECK.due("the last PAIR", 0, mesh.deal(1, CLEAR, 0));
        HoppingMesh six = Check.mesh("pb1;pb2;pb3;pb4;pb5;pa1b0");
        CHECK.due("pair 5", 0, six.deal(5, CLEAR, 0));
        CHECK.due("pair 6", NONE, six.deal(6, CLEAR, 0));
        CHECK.status(six, 1, 0, 0, 0, 0);
    }

    private static void outOfBounds() {
        CHECK.promise(14, "no such kind, n out of bounds (1; of MOVE 0 .. 5)");
        int[] least = {1, 1, 0, 0};
        int[] most = {3, 3, 5, 0};
        for (int kind = -1; kind <= 4; kind++) {
            for (int n = -2; n <= 8; n++) {
                HoppingMesh mesh = Check.mesh("su0;p");
                settle(mesh, 0, ADD, 3);
                settle(mesh, 0, ADD, 3);
                boolean fits = kind >= 0 && kind <= 3 && n >= least[kind] && n <= most[kind];
                int answer = mesh.deal(0, kind, n);
                CHECK.due("deal(0, " + kind + ", " + n + ")", fits, answer >= 0);
                CHECK.status(mesh, 0, fits ? 0 : 1, 0, 0, 0);
                CHECK.due("LETTERS", fits ? 1 : 0, mesh.most(3));
            }
        }
        int[] far = {Integer.MIN_VALUE, -100, 100, Integer.MAX_VALUE};
        for (int n : far) {
            HoppingMesh mesh = Check.mesh("su0;p");
            for (int kind = 0; kind <= 3; kind++) {
                CHECK.due("deal(0, " + kind + ", " + n + ")", NONE, mesh.deal(0, kind, n));
                CHECK.due("deal(0, " + n + ", " + kind + ")", NONE, mesh.deal(0, n, kind));
            }
            CHECK.status(mesh, 0, 8, 0, 0, 0);
        }
    }

    private static void noSuchCell() {
        CHECK.promise(14, "MOVE: no such CELL (2)");
        for (int cells = 0; cells <= 6; cells++) {
            HoppingMesh mesh = Check.mesh("su0;p");
            for (int i = 0; i < cells; i++) {
                settle(mesh, 0, ADD, 1);
            }
            for (int n = cells; n <= 5; n++) {
                CHECK.due("MOVE of place " + n, NONE, mesh.deal(0, MOVE, n));
            }
            CHECK.status(mesh, 0, 0, 6 - cells, 0, 0);
            if (cells > 0) {
                CHECK.due("MOVE of the last", 3, mesh.deal(0, MOVE, cells - 1));
                CHECK.due("the last", mesh.cell(0, 0, cells - 1, 0), mesh.letter(0, 6));
                mesh.undo();
                CHECK.due("MOVE of the first", 3, mesh.deal(0, MOVE, 0));
                CHECK.due("the first", 0, mesh.letter(0, 6));
            }
        }
    }

    private static void whileItWaits() {
        CHECK.promise(14, "it can't be begun (3): it WAITS");
        for (int kind = 0; kind <= 3; kind++) {
            HoppingMesh mesh = Check.mesh("su0;p;pa2b3");
            settle(mesh, 0, ADD, 1);
            mesh.deal(0, kind, kind < 2 ? 1 : 0);
            mesh.lose(0);
            CHECK.due("it WAITS", 1, mesh.waits(0, 0, 0));
            CHECK.due("ADD", NONE, mesh.deal(0, ADD, 1));
            CHECK.due("DELETE", NONE, mesh.deal(0, DELETE, 1));
            CHECK.due("MOVE", NONE, mesh.deal(0, MOVE, 0));
            CHECK.due("CLEAR", NONE, mesh.deal(0, CLEAR, 0));
            CHECK.status(mesh, 0, 0, 0, 4, 0);
            CHECK.due("no such CELL is first", NONE, mesh.deal(0, MOVE, 1));
            CHECK.due("out of bounds is first", NONE, mesh.deal(0, MOVE, 6));
            CHECK.status(mesh, 0, 1, 1, 4, 0);
            CHECK.due("another PAIR", 2, mesh.deal(1, ADD, 1));
        }
    }

    private static void whileALetterIsUnderWay() {
        CHECK.promise(14, "it can't be begun (3): a LETTER is under way");
        HoppingMesh mesh = Check.mesh("su0;pk3");
        mesh.deal(0, ADD, 2);
        CHECK.due("the REQUEST", NONE, mesh.deal(0, ADD, 2));
        mesh.frames(1);
        CHECK.due("the answer", NONE, mesh.deal(0, ADD, 2));
        mesh.frames(1);
        CHECK.due("the SENDER does not WAIT", 0, mesh.waits(0, 0, 0));
        CHECK.due("the CONFIRM", 2, mesh.letter(0, 0));
        CHECK.due("ADD", NONE, mesh.deal(0, ADD, 2));
        CHECK.due("DELETE", NONE, mesh.deal(0, DELETE, 1));
        CHECK.due("MOVE", NONE, mesh.deal(0, MOVE, 0));
        CHECK.due("CLEAR", NONE, mesh.deal(0, CLEAR, 0));
        CHECK.status(mesh, 0, 0, 0, 6, 0);
        mesh.lose(0);
        CHECK.due("it is LOST", 0, mesh.deal(0, CLEAR, 0));
        mesh.undo();
        mesh.undo();
        mesh.frames(1);
        CHECK.due("it is read", 0, mesh.deal(0, CLEAR, 0));
    }

    /** A SENDER with four SLOTS and so many of them TAKEN by another PAIR. */
    private static HoppingMesh taken(int slots, String steps) {
        HoppingMesh mesh = Check.mesh("sw4c1u0;pa0b1k" + steps + ";pa0b2");
        for (int i = 0; i < slots; i++) {
            settle(mesh, 1, ADD, 1);
        }
        return mesh;
    }

    private static void addOfOffers() {
        CHECK.promise(14, "ADD n, 2 STEPS: the first n and 1 of its OFFERS (so many there are; none: can't)");
        for (int slots = 0; slots <= 4; slots++) {
            for (int n = 1; n <= 3; n++) {
                HoppingMesh mesh = taken(slots, "2");
                int due = Math.min(n + 1, 4 - slots);
                CHECK.due(slots + " TAKEN: ADD " + n, due == 0 ? NONE : due, mesh.deal(0, ADD, n));
                CHECK.status(mesh, 0, 0, 0, due == 0 ? 1 : 0, 0);
                CHECK.due("PROMISED", due, mesh.waits(0, 0, 2));
                for (int i = 0; i < due; i++) {
                    CHECK.due("CELL " + i, 10 * (slots + i), mesh.letter(0, 6 + i));
                }
                CHECK.due("no more", NONE, mesh.letter(0, 6 + due));
            }
        }
    }

    private static void addOfThreeSteps() {
        CHECK.promise(14, "ADD n, 3 STEPS: without CELLS");
        for (int slots = 0; slots <= 4; slots++) {
            for (int n = 1; n <= 3; n++) {
                HoppingMesh mesh = taken(slots, "3");
                CHECK.due(slots + " TAKEN: ADD " + n, 0, mesh.deal(0, ADD, n));
                CHECK.waits(mesh, 0, 0, 1, 2 * slots, 0);
                CHECK.letter(mesh, 0, 0, 0, NONE, 0, n, 0);
            }
        }
    }

    private static void deleteOfCells() {
        CHECK.promise(14, "DELETE n: its last n CELLS, rising (so many there are; none: can't)");
        int[] cells = {0, 11, 20, 31};
        for (int size = 0; size <= 4; size++) {
            for (int n = 1; n <= 3; n++) {
                HoppingMesh mesh = Check.mesh("su0;p");
                for (int i = 0; i < size; i++) {
                    settle(mesh, 0, ADD, 1);
                }
                int due = Math.min(n, size);
                CHECK.due(size + " CELLS: DELETE " + n, due == 0 ? NONE : due, mesh.deal(0, DELETE, n));
                CHECK.status(mesh, 0, 0, 0, due == 0 ? 1 : 0, 0);
                for (int i = 0; i < due; i++) {
                    CHECK.due("CELL " + i, cells[size - due + i], mesh.letter(0, 6 + i));
                }
                CHECK.due("no more", NONE, mesh.letter(0, 6 + due));
                mesh.frames(2);
                CHECK.due("left", size - due, mesh.pair(0, 9));
                CHECK.due("left", size - due, mesh.pair(0, 10));
            }
        }
    }

    private static void moveOfCells() {
        CHECK.promise(14, "MOVE: that and the first two of its OFFERS (so many; none: can't)");
        for (int others = 0; others <= 3; others++) {
            HoppingMesh mesh = taken(others, "2");
            settle(mesh, 0, ADD, 1);
            int due = Math.min(2, 3 - others);
            CHECK.due(others + " TAKEN by others", due == 0 ? NONE : 1 + due, mesh.deal(0, MOVE, 0));
            CHECK.status(mesh, 0, 0, 0, due == 0 ? 1 : 0, 0);
            CHECK.due("PROMISED", due, mesh.waits(0, 0, 2));
            if (due > 0) {
                CHECK.due("that", 10 * others, mesh.letter(0, 6));
                CHECK.due("the first OFFER", 10 * (others + 1), mesh.letter(0, 7));
                CHECK.due("the second OFFER", due == 2 ? 10 * (others + 2) : NONE, mesh.letter(0, 8));
            }
        }
    }

    private static void moveGoesRound() {
        CHECK.promise(14, "MOVE: OFFERS from the SLOT behind that on, behind the last one from 0 on");
        HoppingMesh mesh = Check.mesh("sw4c1u0;p");
        settle(mesh, 0, ADD, 1);
        int[][] due = {{0, 10, 20}, {10, 20, 30}, {20, 30, 0}, {30, 0, 10}, {0, 10, 20}};
        for (int[] row : due) {
            CHECK.due("MOVE", 3, mesh.deal(0, MOVE, 0));
            for (int i = 0; i < 3; i++) {
                CHECK.due("CELL " + i, row[i], mesh.letter(0, 6 + i));
            }
            mesh.frames(2);
            CHECK.tables(mesh, 0, row[1]);
        }
    }

    private static void clear() {
        CHECK.promise(14, "CLEAR (n 0): without CELLS");
        for (int cells = 0; cells <= 3; cells++) {
            HoppingMesh mesh = Check.mesh("su0;p");
            if (cells > 0) {
                settle(mesh, 0, ADD, cells);
            }
            CHECK.due("CLEAR", 0, mesh.deal(0, CLEAR, 0));
            CHECK.due("CELLS", 0, mesh.letter(0, 5));
            mesh.frames(1);
            CHECK.due("RECEIVER's", 0, mesh.pair(0, 10) + mesh.pair(0, 8));
            CHECK.due("SENDER's", cells, mesh.pair(0, 9));
            mesh.frames(1);
            CHECK.tables(mesh, 0);
            CHECK.due("SEQ", 0, mesh.pair(0, 7));
            CHECK.due("SEQ", 0, mesh.pair(0, 8));
        }
    }

    private static void refusedChangesNothing() {
        CHECK.promise(14, "refused: nothing but STATUS");
        Twins.Calls before = m -> {
            Check.tell(m, "sw4u0;pl2;pa2b1k3", 0);
            m.deal(0, ADD, 3);
            m.frames(2);
            m.image();
            m.deal(0, ADD, 1);
            m.frames(2);
        };
        TWINS.unchanged("no such PAIR", before, m -> m.deal(2, ADD, 1), 1);
        TWINS.unchanged("no such kind", before, m -> m.deal(0, 4, 0), 0, 1);
        TWINS.unchanged("n out of bounds", before, m -> m.deal(0, DELETE, 4), 0, 1);
        TWINS.unchanged("no such CELL", before, m -> m.deal(0, MOVE, 4), 0, 0, 1);
        TWINS.unchanged("no OFFERS: ADD", before, m -> m.deal(0, ADD, 1), 0, 0, 0, 1);
        TWINS.unchanged("no OFFERS: MOVE", before, m -> m.deal(0, MOVE, 3), 0, 0, 0, 1);
        TWINS.unchanged("no CELLS: DELETE", before, m -> m.deal(1, DELETE, 1), 0, 0, 0, 1);
        TWINS.unchanged("it WAITS", m -> {
            before.on(m);
            m.deal(0, DELETE, 1);
        }, m -> m.deal(0, CLEAR, 0), 0, 0, 0, 1);
    }

    private static void anAct() {
        CHECK.promise(14, "begun: one ACT");
        for (int kind = 0; kind <= 3; kind++) {
            HoppingMesh mesh = Check.mesh("su0;p");
            settle(mesh, 0, ADD, 2);
            int acts = mesh.count(6);
            mesh.deal(0, kind, kind < 2 ? 1 : 0);
            CHECK.due("ACTS", acts + 1, mesh.count(6));
            CHECK.due("LOG", 2, mesh.count(5));
            mesh.undo();
            CHECK.letter(mesh, 0);
            CHECK.waits(mesh, 0, 0, 0, NONE, 0);
            CHECK.due("TAKEN", 3, mesh.node(0, 0));
        }
    }

    /** The answer to an ADD is LOST, so that the RECEIVER is ahead by one. */
    private static HoppingMesh atOdds(String steps) {
        HoppingMesh mesh = Check.mesh("su0;pk" + steps);
        mesh.deal(0, ADD, 2);
        mesh.frames(steps.equals("2") ? 2 : 3);
        mesh.deal(0, DELETE, 1);
        mesh.frames(1);
        mesh.lose(0);
        mesh.frames(4);
        CHECK.due("SEQ", 1, mesh.pair(0, 7));
        CHECK.due("SEQ", 2, mesh.pair(0, 8));
        return mesh;
    }

    private static void fromTheSendersTable() {
        CHECK.promise(14, "DELETE and MOVE: of its CELLS, the SENDER's");
        HoppingMesh mesh = Check.mesh("sw4c1u0;p");
        settle(mesh, 0, ADD, 2);
        mesh.deal(0, MOVE, 0);
        mesh.frames(1);
        mesh.lose(0);
        mesh.frames(3);
        CHECK.table(mesh, 0, 0, 0, 10);
        CHECK.table(mesh, 0, 1, 10, 20);
        CHECK.due("DELETE 1", 1, mesh.deal(0, DELETE, 1));
        CHECK.letter(mesh, 0, 0, 1, NONE, 1, 1, 1, 10);
        mesh.undo();
        CHECK.due("DELETE 3", 2, mesh.deal(0, DELETE, 3));
        CHECK.letter(mesh, 0, 0, 1, NONE, 1, 3, 2, 0, 10);
        mesh.undo();
        CHECK.due("MOVE", 3, mesh.deal(0, MOVE, 0));
        CHECK.letter(mesh, 0, 0, 2, NONE, 1, NONE, 3, 0, 20, 30);
        HoppingMesh receivers = Check.mesh("su0;p");
        receivers.deal(0, ADD, 1);
        receivers.frames(1);
        receivers.lose(0);
        receivers.frames(3);
        CHECK.due("the RECEIVER's alone: DELETE", NONE, receivers.deal(0, DELETE, 1));
        CHECK.due("the RECEIVER's alone: MOVE", NONE, receivers.deal(0, MOVE, 0));
        CHECK.status(receivers, 0, 0, 1, 1, 0);
        HoppingMesh senders = Check.mesh("su0;pk3");
        senders.deal(0, ADD, 1);
        senders.frames(2);
        senders.lose(0);
        CHECK.due("the SENDER's alone: DELETE", 1, senders.deal(0, DELETE, 1));
        senders.undo();
        CHECK.due("the SENDER's alone: MOVE", 3, senders.deal(0, MOVE, 0));
    }

    private static void answerOdd() {
        CHECK.promise(14, "its SEQ unlike that of the REQUEST: ODD; a CLEAR at once");
        for (int kind = 0; kind <= 2; kind++) {
            for (String steps : new String[] {"2", "3"}) {
                HoppingMesh mesh = atOdds(steps);
                mesh.deal(0, kind, 1);
                mesh.frames(1);
                CHECK.letter(mesh, 0, 1, kind, 2, NONE, kind == 2 ? NONE : 1, 0);
                CHECK.table(mesh, 0, 0, 0, 11);
                CHECK.table(mesh, 0, 1, 0);
                CHECK.due("SEQ", 2, mesh.pair(0, 8));
                CHECK.waits(mesh, 0, 1, 0, NONE, 0);
                mesh.frames(1);
                CHECK.letter(mesh, 0, 0, 3, NONE, 1, NONE, 0);
                CHECK.waits(mesh, 0, 0, 1, mesh.count(3) - 1, 0);
                CHECK.table(mesh, 0, 0, 0, 11);
                mesh.frames(2);
                CHECK.tables(mesh, 0);
            }
        }
    }

    private static void clearWithUnlikeSeq() {
        CHECK.promise(14, "to a CLEAR: its TABLE is empty, SEQ 0: OK, whatever the SEQ");
        HoppingMesh mesh = atOdds("2");
        mesh.deal(0, CLEAR, 0);
        CHECK.due("SEQ of the REQUEST", 1, mesh.letter(0, 3));
        mesh.frames(1);
        CHECK.letter(mesh, 0, 1, 3, 0, NONE, NONE, 0);
        CHECK.table(mesh, 0, 1);
        CHECK.due("SEQ", 0, mesh.pair(0, 8));
        mesh.frames(1);
        CHECK.tables(mesh, 0);
    }

    /** The RECEIVER (NODE 1) has the SLOTS of PAIR 1 TAKEN; the SENDER of PAIR 0 does not know of them. */
    private static void acceptFree() {
        CHECK.promise(14, "ADD, 2 STEPS: the first n whose SLOTS are FREE at it (none: NO)");
        int[][] due = {{0, 1, 0}, {1, 1, 10}, {2, 0, NONE}};
        for (int[] row : due) {
            HoppingMesh mesh = Check.mesh("sw4c1u0;pa0b1;pa2b1");
            for (int i = 0; i < row[0]; i++) {
                settle(mesh, 1, ADD, 1);
            }
            mesh.deal(0, ADD, 1);
            mesh.frames(1);
            CHECK.due(row[0] + " TAKEN: OK or NO", row[1] == 0 ? 1 : 0, mesh.letter(0, 2));
            CHECK.due(row[0] + " TAKEN: CELLS", row[1], mesh.letter(0, 5));
            CHECK.due(row[0] + " TAKEN: the CELL", row[2], mesh.letter(0, 6));
            CHECK.due("SEQ", row[1], mesh.pair(0, 8));
            mesh.frames(1);
            CHECK.due("SEQ", row[1], mesh.pair(0, 7));
            CHECK.due("CELLS", row[1], mesh.pair(0, 9));
            CHECK.due("AGREE", 1, mesh.agree(0));
        }
        HoppingMesh some = Check.mesh("sw4c1u0;pa0b1;pa2b1");
        settle(some, 1, ADD, 2);
        some.deal(0, ADD, 3);
        some.frames(1);
        CHECK.letter(some, 0, 1, 0, 0, NONE, 3, 2, 20, 30);
        some.frames(1);
        CHECK.tables(some, 0, 20, 30);
    }

    private static void acceptRoom() {
        CHECK.promise(14, "ADD, 2 STEPS: as many as its TABLE has room for");
        for (int size = 3; size <= 6; size++) {
            HoppingMesh mesh = Check.mesh("su0;p");
            settle(mesh, 0, ADD, 3);
            if (size > 3) {
                settle(mesh, 0, ADD, size - 3);
            }
            int seq = mesh.pair(0, 7);
            CHECK.due("ADD 3", 4, mesh.deal(0, ADD, 3));
            mesh.frames(1);
            CHECK.due("CELLS come", 6 - size, mesh.letter(0, 5));
            CHECK.due("OK or NO", size == 6 ? 1 : 0, mesh.letter(0, 2));
            mesh.frames(1);
            CHECK.tables(mesh, 0, 0, 11, 20, 31, 40, 51);
            CHECK.due("SEQ", size == 6 ? seq : seq + 1, mesh.pair(0, 7));
            CHECK.due("PROMISED no more", 63, mesh.node(0, 0));
        }
    }

    private static void offersOfTheReceiver() {
        CHECK.promise(14, "ADD, 3 STEPS: the first n and 1 of its OFFERS (none: NO)");
        for (int slots = 0; slots <= 4; slots++) {
            for (int n = 1; n <= 3; n++) {
                HoppingMesh mesh = Check.mesh("sw4c1u0;pa0b1k3;pa2b1");
                for (int i = 0; i < slots; i++) {
                    settle(mesh, 1, ADD, 1);
                }
                mesh.deal(0, ADD, n);
                mesh.frames(1);
                int due = Math.min(n + 1, 4 - slots);
                CHECK.due(slots + " TAKEN: OK or NO", due == 0 ? 1 : 0, mesh.letter(0, 2));
                CHECK.due(slots + " TAKEN: CELLS", due, mesh.letter(0, 5));
                CHECK.due(slots + " TAKEN: the first", due == 0 ? NONE : 10 * slots, mesh.letter(0, 6));
                CHECK.waits(mesh, 0, 1, due == 0 ? 0 : 1, due == 0 ? NONE : 2 * slots, due);
                CHECK.due("SEQ", 0, mesh.pair(0, 8));
                mesh.frames(2);
                CHECK.due("CELLS", Math.min(n, due), mesh.pair(0, 9));
                CHECK.due("CELLS", Math.min(n, due), mesh.pair(0, 10));
                CHECK.due("SEQ", due == 0 ? 0 : 1, mesh.pair(0, 7));
                CHECK.due("SEQ", due == 0 ? 0 : 1, mesh.pair(0, 8));
            }
        }
    }

    private static void roomOfTheSender() {
        CHECK.promise(14, "ADD, 3 STEPS: as many as there is room for; a CONFIRM, perhaps with none");
        for (int size = 3; size <= 6; size++) {
            HoppingMesh mesh = Check.mesh("su0;pk3");
            mesh.deal(0, ADD, 3);
            mesh.frames(3);
            if (size > 3) {
                mesh.deal(0, ADD, size - 3);
                mesh.frames(3);
            }
            int seq = mesh.pair(0, 7);
            mesh.deal(0, ADD, 3);
            mesh.frames(1);
            CHECK.due("OFFERS", 4, mesh.letter(0, 5));
            mesh.frames(1);
            CHECK.due("CONFIRM", 2, mesh.letter(0, 0));
            CHECK.due("CELLS", 6 - size, mesh.letter(0, 5));
            CHECK.due("SENDER's SEQ", size == 6 ? seq : seq + 1, mesh.pair(0, 7));
            mesh.frames(1);
            CHECK.tables(mesh, 0, 0, 11, 20, 31, 40, 51);
            CHECK.due("RECEIVER's SEQ", size == 6 ? seq : seq + 1, mesh.pair(0, 8));
            CHECK.waits(mesh, 0, 1, 0, NONE, 0);
            CHECK.due("PROMISED no more", 63, mesh.node(1, 0));
        }
    }

    private static void freeAtTheSender() {
        CHECK.promise(14, "ADD, 3 STEPS: the first n of these whose SLOTS are FREE at it");
        int[][] due = {{0, 0}, {1, 10}, {2, NONE}, {4, NONE}};
        for (int[] row : due) {
            HoppingMesh mesh = taken(row[0], "3");
            mesh.deal(0, ADD, 1);
            mesh.frames(1);
            CHECK.due("OFFERS of the RECEIVER", 2, mesh.letter(0, 5));
            mesh.frames(1);
            CHECK.due("CONFIRM", 2, mesh.letter(0, 0));
            CHECK.due(row[0] + " TAKEN", row[1], mesh.letter(0, 6));
            int came = row[1] == NONE ? 0 : 1;
            CHECK.due("CELLS", came, mesh.letter(0, 5));
            CHECK.due("SEQ", came, mesh.pair(0, 7));
            CHECK.due("SEQ", 0, mesh.pair(0, 8));
            CHECK.due("TAKEN at the RECEIVER", 3, mesh.node(1, 0));
            mesh.frames(1);
            CHECK.due("SEQ", came, mesh.pair(0, 8));
            CHECK.due("CELLS", came, mesh.pair(0, 10));
            CHECK.waits(mesh, 0, 1, 0, NONE, 0);
            CHECK.due("AGREE", 1, mesh.agree(0));
        }
    }

    /** PAIR 0 has a CELL in SLOT 0; PAIR 1 takes SLOTS from 1 on at the RECEIVER. */
    private static void moveAtTheReceiver() {
        CHECK.promise(14, "MOVE: the first such one comes instead (else NO)");
        int[][] due = {{0, 10}, {1, 20}, {2, NONE}};
        for (int[] row : due) {
            HoppingMesh mesh = Check.mesh("sw4c1u0;pa0b1;pa2b1");
            settle(mesh, 0, ADD, 1);
            for (int i = 0; i < row[0]; i++) {
                settle(mesh, 1, ADD, 1);
            }
            mesh.deal(0, MOVE, 0);
            mesh.frames(1);
            if (row[1] == NONE) {
                CHECK.letter(mesh, 0, 1, 2, 1, NONE, NONE, 0);
            } else {
                CHECK.letter(mesh, 0, 1, 2, 0, NONE, NONE, 2, 0, row[1]);
            }
            CHECK.table(mesh, 0, 0, 0);
            CHECK.table(mesh, 0, 1, row[1] == NONE ? 0 : row[1]);
            mesh.frames(1);
            CHECK.tables(mesh, 0, row[1] == NONE ? 0 : row[1]);
            CHECK.due("SEQ", row[1] == NONE ? 1 : 2, mesh.pair(0, 7));
            CHECK.due("SEQ", row[1] == NONE ? 1 : 2, mesh.pair(0, 8));
        }
    }

    /** The one OFFER of PAIR 1 is TAKEN at its RECEIVER; that PAIR 0 just told others does not matter. */
    private static void moveOfTheOffersAlone() {
        CHECK.promise(14, "MOVE: another one told, none else");
        HoppingMesh mesh = Check.mesh("sw4c1u0;pa0b1;pa2b3;pa4b3;pa2b5");
        settle(mesh, 1, ADD, 1);
        settle(mesh, 3, ADD, 2);
        settle(mesh, 2, ADD, 2);
        settle(mesh, 2, MOVE, 1);
        settle(mesh, 2, MOVE, 1);
        CHECK.tables(mesh, 1, 0);
        CHECK.due("one is FREE at the SENDER", 7, mesh.node(2, 0));
        settle(mesh, 2, DELETE, 1);
        settle(mesh, 2, MOVE, 0);
        settle(mesh, 2, MOVE, 0);
        CHECK.tables(mesh, 2, 30);
        CHECK.due("that is TAKEN at the RECEIVER", 9, mesh.node(3, 0));
        mesh.deal(0, ADD, 3);
        mesh.deal(1, MOVE, 0);
        CHECK.due("the one OFFER", 30, mesh.letter(1, 7));
        mesh.frames(1);
        CHECK.letter(mesh, 1, 1, 2, 1, NONE, NONE, 0);
        CHECK.table(mesh, 1, 1, 0);
    }

    /** PAIR 2 takes SLOT 10 at NODE 1; NODE 0 has SLOTS 0 to 9 TAKEN, then OFFERS 10 and those behind. */
    private static void slotsOfTwoDigits() {
        CHECK.promise(14, "SLOTS of two digits");
        HoppingMesh mesh = Check.mesh("sw16c4u0;pa0b1;pa0b2;pa3b1;pa0b4;pa5b1k3");
        settle(mesh, 2, ADD, 1);
        for (int i = 0; i < 10; i++) {
            settle(mesh, 2, MOVE, 0);
        }
        CHECK.due("SLOT 10 is TAKEN", 1 << 10, mesh.node(1, 0));
        settle(mesh, 1, ADD, 3);
        settle(mesh, 1, ADD, 3);
        settle(mesh, 3, ADD, 3);
        settle(mesh, 3, ADD, 1);
        CHECK.due("SLOTS 0 to 9 are TAKEN", 1023, mesh.node(0, 0));
        mesh.deal(0, ADD, 2);
        CHECK.letter(mesh, 0, 0, 0, NONE, 0, 2, 3, 102, 113, 120);
        CHECK.due("PROMISED", 1023 | 7 << 10, mesh.node(0, 0));
        mesh.frames(2);
        CHECK.tables(mesh, 0, 113, 120);
        mesh.deal(0, MOVE, 1);
        CHECK.letter(mesh, 0, 0, 2, NONE, 1, NONE, 3, 120, 131, 142);
        CHECK.due("PROMISED", 1023 | 3 << 11 | 3 << 13, mesh.node(0, 0));
        mesh.frames(2);
        CHECK.tables(mesh, 0, 113, 131);
        settle(mesh, 0, MOVE, 0);
        CHECK.tables(mesh, 0, 120, 131);
        settle(mesh, 0, MOVE, 1);
        settle(mesh, 0, MOVE, 1);
        CHECK.tables(mesh, 0, 120, 153);
        mesh.deal(0, MOVE, 1);
        CHECK.letter(mesh, 0, 0, 2, NONE, 5, NONE, 3, 153, 102, 113);
        mesh.frames(2);
        CHECK.tables(mesh, 0, 113, 120);
        CHECK.due("TAKEN at the RECEIVER", 7 << 10, mesh.node(1, 0));
    }

    private static void promisedSlotsAreTaken() {
        CHECK.promise(14, "SLOTS are TAKEN by each that it has PROMISED");
        HoppingMesh mesh = Check.mesh("sw4c1u0;pa0b1;pa1b0;pa0b2k3;pa3b0k3");
        mesh.deal(0, ADD, 2);
        mesh.deal(1, ADD, 3);
        mesh.deal(3, ADD, 3);
        mesh.frames(1);
        CHECK.letter(mesh, 0, 1, 0, 1, NONE, 2, 0);
        CHECK.letter(mesh, 1, 1, 0, 0, NONE, 3, 1, 30);
        CHECK.letter(mesh, 3, 1, 0, 1, NONE, 3, 0);
        mesh.frames(1);
        CHECK.tables(mesh, 0);
        CHECK.tables(mesh, 1, 30);
        CHECK.due("TAKEN", 8, mesh.node(0, 0));
        CHECK.due("TAKEN", 8, mesh.node(1, 0));
    }

    /** The CONFIRM is LOST: the RECEIVER still WAITS when the next REQUEST comes. */
    private static void requestToOneThatWaits() {
        CHECK.promise(14, "does it WAIT when a REQUEST comes, it does not any more and answers likewise");
        HoppingMesh clear = Check.mesh("su0;pk3");
        clear.deal(0, ADD, 1);
        clear.frames(2);
        clear.lose(0);
        clear.deal(0, CLEAR, 0);
        CHECK.waits(clear, 0, 1, 1, 0, 2);
        clear.frames(1);
        CHECK.waits(clear, 0, 1, 0, NONE, 0);
        CHECK.letter(clear, 0, 1, 3, 0, NONE, NONE, 0);
        CHECK.due("FREE", 0, clear.node(1, 0));
        HoppingMesh odd = Check.mesh("su0;pk3");
        odd.deal(0, ADD, 1);
        odd.frames(2);
        odd.lose(0);
        odd.deal(0, ADD, 1);
        odd.frames(1);
        CHECK.waits(odd, 0, 1, 0, NONE, 0);
        CHECK.due("ODD", 2, odd.letter(0, 2));
        HoppingMesh empty = Check.mesh("sw4c1u0;pa0b1k3;pa0b2");
        settle(empty, 1, ADD, 2);
        empty.deal(0, ADD, 1);
        empty.frames(2);
        CHECK.letter(empty, 0, 2, 0, NONE, NONE, 1, 0);
        empty.lose(0);
        empty.deal(0, ADD, 3);
        CHECK.waits(empty, 0, 1, 1, 2, 2);
        empty.frames(1);
        CHECK.letter(empty, 0, 1, 0, 0, NONE, 3, 4, 0, 10, 20, 30);
        CHECK.waits(empty, 0, 1, 1, 4, 4);
    }

    private static void nextSeq() {
        CHECK.promise(14, "by each OK SEQ is its NEXT, but not of CLEAR");
        HoppingMesh mesh = Check.mesh("su0;p");
        int[] kinds = {ADD, ADD, MOVE, DELETE, MOVE, DELETE};
        for (int i = 0; i < kinds.length; i++) {
            mesh.deal(0, kinds[i], kinds[i] == MOVE ? 0 : 1);
            mesh.frames(1);
            CHECK.due("RECEIVER's", i + 1, mesh.pair(0, 8));
            CHECK.due("SENDER's", i, mesh.pair(0, 7));
            mesh.frames(1);
            CHECK.due("SENDER's", i + 1, mesh.pair(0, 7));
            CHECK.due("AGREE", 1, mesh.agree(0));
        }
        settle(mesh, 0, CLEAR, 0);
        CHECK.due("CLEAR: RECEIVER's", 0, mesh.pair(0, 8));
        CHECK.due("CLEAR: SENDER's", 0, mesh.pair(0, 7));
    }
}
