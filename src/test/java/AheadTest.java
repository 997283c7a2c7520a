/** Promises 23 to 30: offer, comes, agree, healed, steady, harm, odds, shares. */
public final class AheadTest {
    private static final Check CHECK = new Check();
    private static final int NONE = HoppingMesh.NONE;

    public static void main(String[] args) {
        offer();
        comes();
        agree();
        healed();
        healedByAuto();
        steady();
        harm();
        harmOfSeveral();
        odds();
        oddsThatAreCut();
        shares();
        apartLeavesAll();
        CHECK.end("AheadTest");
    }

    private static void offer() {
        HoppingMesh mesh = new HoppingMesh();
        CHECK.due("no MESH", NONE, mesh.offer(0, 0, 0, -1));
        Check.tell(mesh, "sw5c3u0;p;pa2b1", 0);
        int[] first = {0, 11, 22, 30, 41};
        for (int i = 0; i < 5; i++) {
            CHECK.due("offer(0, 0, 0, " + i + ")", first[i], mesh.offer(0, 0, 0, i));
            CHECK.due("offer(0, 1, 0, " + i + ")", first[i], mesh.offer(0, 1, 0, i));
        }
        int[] from3 = {31, 42, 1, 12, 20};
        for (int i = 0; i < 5; i++) {
            CHECK.due("offer(1, 2, 3, " + i + ")", from3[i], mesh.offer(1, 2, 3, i));
        }
        CHECK.due("how many", 5, mesh.offer(1, 2, 4, NONE));
        CHECK.due("no such one", NONE, mesh.offer(0, 0, 0, 5));
        CHECK.due("no such one", NONE, mesh.offer(0, 0, 0, -2));
        CHECK.due("no such PAIR", NONE, mesh.offer(2, 0, 0, 0));
        CHECK.due("no such PAIR", NONE, mesh.offer(-1, 0, 0, 0));
        CHECK.due("no such SLOT", NONE, mesh.offer(0, 0, 5, NONE));
        CHECK.due("no such SLOT", NONE, mesh.offer(0, 0, -1, NONE));
        CHECK.due("not of it", NONE, mesh.offer(0, 2, 0, NONE));
        CHECK.due("not of it", NONE, mesh.offer(1, 0, 0, NONE));
        CHECK.due("not of it", NONE, mesh.offer(1, -1, 0, NONE));
        mesh.deal(0, 0, 2);
        CHECK.due("PROMISED", 2, mesh.offer(0, 0, 1, NONE));
        CHECK.due("PROMISED", 30, mesh.offer(0, 0, 1, 0));
        CHECK.due("the RECEIVER's", 5, mesh.offer(1, 1, 1, NONE));
        mesh.frames(1);
        CHECK.due("in its TABLE", 3, mesh.offer(1, 1, 1, NONE));
        CHECK.due("in its TABLE", 20, mesh.offer(1, 1, 1, 0));
        mesh.frames(1);
        mesh.deal(0, 0, 3);
        mesh.frames(2);
        CHECK.due("none", 0, mesh.offer(0, 0, 0, NONE));
        CHECK.due("none", NONE, mesh.offer(0, 0, 0, 0));
    }

    /** As told in ActTest: CELLS come behind FRAMES 5, 9 and 13. */
    private static void comes() {
        HoppingMesh mesh = new HoppingMesh();
        CHECK.due("no MESH", NONE, mesh.comes(0, 0, 0));
        Check.tell(mesh, "p", 0);
        int[][] due = {{0, 0, 0, 0}, {1, 0, 1, 0}, {5, 0, 5, 0}, {6, 1, 5, 1}, {9, 4, 5, 1}, {10, 6, 4, 2},
            {13, 12, 1, 2}, {14, 14, 0, 3}, {60, 60, 0, 3}};
        for (int[] row : due) {
            for (int what = 0; what < 3; what++) {
                CHECK.due("comes(0, " + row[0] + ", " + what + ")", row[what + 1], mesh.comes(0, row[0], what));
            }
        }
        CHECK.due("FRAME", 0, mesh.count(3));
        mesh.frames(5);
        CHECK.due("from as it is now", 4, mesh.comes(0, 4, 0));
        CHECK.due("no such PAIR", NONE, mesh.comes(1, 0, 0));
        CHECK.due("no such PAIR", NONE, mesh.comes(-1, 0, 0));
        CHECK.due("out of bounds", NONE, mesh.comes(0, 61, 0));
        CHECK.due("out of bounds", NONE, mesh.comes(0, -1, 0));
        CHECK.due("no such what", NONE, mesh.comes(0, 1, 3));
        CHECK.due("no such what", NONE, mesh.comes(0, 1, -1));
    }

    private static void agree() {
        HoppingMesh mesh = new HoppingMesh();
        CHECK.due("no MESH", NONE, mesh.agree(0));
        Check.tell(mesh, "su0;p;pa2b3k3", 0);
        CHECK.due("no such PAIR", NONE, mesh.agree(2));
        CHECK.due("no such PAIR", NONE, mesh.agree(-1));
        mesh.deal(0, 0, 1);
        mesh.deal(1, 0, 1);
        int[] first = {1, 0, 1, 1};
        int[] second = {1, 1, 0, 1};
        for (int i = 0; i < 4; i++) {
            CHECK.due("agree(0) at " + i, first[i], mesh.agree(0));
            CHECK.due("agree(1) at " + i, second[i], mesh.agree(1));
            CHECK.due("AT ODDS at " + i, 3 - first[i] - 2 * second[i], mesh.most(4));
            mesh.frames(1);
        }
        HoppingMesh seqs = Check.mesh("su0t2;p");
        seqs.deal(0, 0, 1);
        seqs.frames(2);
        seqs.deal(0, 1, 1);
        seqs.frames(1);
        seqs.lose(0);
        seqs.deal(0, 3, 0);
        seqs.frames(2);
        seqs.deal(0, 3, 0);
        seqs.lose(0);
        seqs.frames(3);
        CHECK.due("both empty", 0, seqs.pair(0, 9) + seqs.pair(0, 10));
        CHECK.due("SEQ", 0, seqs.pair(0, 7));
        CHECK.due("SEQ", 2, seqs.pair(0, 8));
        CHECK.due("both empty, but not SEQ", 0, seqs.agree(0));
    }

    private static void healed() {
        HoppingMesh mesh = new HoppingMesh();
        CHECK.due("no MESH", NONE, mesh.healed());
        Check.tell(mesh, "su0;p", 0);
        CHECK.due("AGREE", 0, mesh.healed());
        mesh.deal(0, 0, 1);
        CHECK.due("AGREE now", 0, mesh.healed());
        mesh.frames(1);
        CHECK.due("an answer is under way", 1, mesh.healed());
        mesh.lose(0);
        CHECK.due("not AUTO: never", NONE, mesh.healed());
        mesh.auto();
        CHECK.due("AUTO: ADD in FRAME 3, ODD, CLEAR", 6, mesh.healed());
        mesh.frames(5);
        CHECK.due("at odds", 0, mesh.agree(0));
        mesh.frames(1);
        CHECK.due("AGREE", 1, mesh.agree(0));
    }

    /** The first DEALING behind a long TIMEOUT is begun in the last FRAME of a WINDOW. */
    private static void healedByAuto() {
        HoppingMesh mesh = Check.mesh("st9m9;p");
        mesh.deal(0, 0, 1);
        mesh.frames(1);
        mesh.lose(0);
        CHECK.due("TIMEOUT in FRAME 9, ADD in FRAME 17", 20, mesh.healed());
        mesh.frames(19);
        CHECK.due("at odds", 0, mesh.agree(0));
        mesh.frames(1);
        CHECK.due("AGREE", 1, mesh.agree(0));
    }

    private static void steady() {
        HoppingMesh mesh = new HoppingMesh();
        CHECK.due("no MESH", NONE, mesh.steady());
        Check.tell(mesh, "p", 0);
        CHECK.due("the third CELL comes in FRAME 13", 14, mesh.steady());
        mesh.frames(13);
        CHECK.due("one more", 1, mesh.steady());
        mesh.frames(1);
        CHECK.due("steady", 0, mesh.steady());
        CHECK.due("FRAME", 14, mesh.count(3));
        mesh.load(0, 9);
        int late = mesh.steady();
        mesh.frames(late - 1);
        CHECK.due("not yet six", 5, mesh.pair(0, 9));
        mesh.frames(1);
        CHECK.due("six", 6, mesh.pair(0, 9));
        HoppingMesh slow = Check.mesh("sm9;pl9");
        CHECK.due("six by FRAME 55: not within 40", NONE, slow.steady());
        slow.frames(15);
        CHECK.due("in 41", NONE, slow.steady());
        slow.frames(1);
        CHECK.due("in 40", 40, slow.steady());
        slow.frames(4);
        CHECK.due("six CELLS in FRAME 55", 36, slow.steady());
    }

    private static void harm() {
        HoppingMesh mesh = new HoppingMesh();
        CHECK.due("no MESH", NONE, mesh.harm(1, 0));
        Check.tell(mesh, "su0;p", 0);
        CHECK.due("no LETTER", NONE, mesh.harm(6, 0));
        CHECK.due("no LETTER", NONE, mesh.harm(6, 1));
        mesh.deal(0, 0, 1);
        CHECK.due("harm(0)", NONE, mesh.harm(0, 0));
        CHECK.due("harm(7)", NONE, mesh.harm(7, 0));
        CHECK.due("no such what", NONE, mesh.harm(1, 2));
        CHECK.due("no such what", NONE, mesh.harm(1, -1));
        CHECK.due("a REQUEST LOST does none", 0, mesh.harm(1, 0));
        CHECK.due("a REQUEST LOST does none", 0, mesh.harm(1, 1));
        CHECK.due("the answer LOST", 10, mesh.harm(2, 0));
        CHECK.due("the answer LOST: all 30", 30, mesh.harm(2, 1));
        CHECK.due("none later", 10, mesh.harm(6, 0));
        mesh.frames(1);
        CHECK.due("now", 0, mesh.harm(6, 0));
        CHECK.due("now", 30, mesh.harm(6, 1));
        mesh.frames(1);
        CHECK.due("none under way", NONE, mesh.harm(6, 1));
    }

    private static void harmOfSeveral() {
        HoppingMesh mesh = Check.mesh("su0;p;pa2b3;pa4b5k3");
        mesh.deal(0, 3, 0);
        mesh.deal(1, 0, 1);
        mesh.deal(2, 0, 1);
        CHECK.due("of none the lowest; behind FRAMES 0 and 1 at odds", 0, mesh.harm(1, 0));
        CHECK.due("at odds all the same", 2, mesh.harm(1, 1));
        CHECK.due("answers: of PAIR 1", 11, mesh.harm(2, 0));
        CHECK.due("answers: of PAIR 1", 30, mesh.harm(2, 1));
        CHECK.due("CONFIRM: as much, but later", 11, mesh.harm(3, 0));
        mesh.frames(2);
        CHECK.due("the CONFIRM", 2, mesh.harm(1, 0));
        CHECK.due("the CONFIRM", 30, mesh.harm(1, 1));
    }

    private static void odds() {
        HoppingMesh mesh = new HoppingMesh();
        CHECK.due("no MESH", NONE, mesh.odds(0, 0));
        Check.tell(mesh, "su0;p", 0);
        CHECK.due("AGREE", 1000000000, mesh.odds(0, 50));
        mesh.deal(0, 0, 1);
        CHECK.due("AGREE", 1000000000, mesh.odds(0, 100));
        CHECK.due("the REQUEST LOST", 250000000, mesh.odds(1, 25));
        CHECK.due("that or both read", 250000000 + 562500000, mesh.odds(2, 25));
        CHECK.due("as many later", 812500000, mesh.odds(4, 25));
        CHECK.due("none LOST", 1000000000, mesh.odds(2, 0));
        CHECK.due("none LOST", 0, mesh.odds(1, 0));
        CHECK.due("all LOST", 1000000000, mesh.odds(6, 100));
        mesh.frames(1);
        CHECK.due("at odds", 0, mesh.odds(0, 0));
        CHECK.due("the answer read", 930000000, mesh.odds(1, 7));
        CHECK.due("out of bounds", NONE, mesh.odds(-1, 0));
        CHECK.due("out of bounds", NONE, mesh.odds(7, 0));
        CHECK.due("out of bounds", NONE, mesh.odds(1, -1));
        CHECK.due("out of bounds", NONE, mesh.odds(1, 101));
        mesh.lose(0);
        CHECK.due("not AUTO: never", 0, mesh.odds(6, 50));
    }

    /** The ADD of FRAME 3 (AUTO) is answered in FRAME 4, read in FRAME 5: cut in each of the six FRAMES. */
    private static void oddsThatAreCut() {
        HoppingMesh mesh = Check.mesh("p");
        int chance = 33;
        long due = 0;
        for (int losses = 0; losses < 64; losses++) {
            long parts = 1000000000L;
            for (int k = 0; k < 6; k++) {
                long lost = parts * chance / 100;
                parts = (losses >> k & 1) == 1 ? lost : parts - lost;
            }
            boolean answerLost = (losses >> 4 & 1) == 0 && (losses >> 5 & 1) == 1;
            due += answerLost ? 0 : parts;
        }
        CHECK.due("odds(6, 33)", due, mesh.odds(6, chance));
    }

    private static void shares() {
        HoppingMesh mesh = new HoppingMesh();
        CHECK.due("no MESH", NONE, mesh.shares(0, 0));
        Check.tell(mesh, "su0;pl3;pa2b3l1;pa4b5l0", 0);
        CHECK.due("none GOT", 0, mesh.shares(0, 999));
        mesh.deal(1, 0, 2);
        mesh.load(1, 0);
        mesh.frames(1);
        mesh.load(1, 1);
        mesh.frames(1);
        CHECK.due("one GOT", 999, mesh.shares(1, 999));
        CHECK.due("one GOT", 0, mesh.shares(0, 999));
        mesh.undo();
        mesh.undo();
        mesh.undo();
        mesh.undo();
        mesh.deal(0, 0, 3);
        mesh.frames(3);
        CHECK.due("GOT", 6, mesh.cell(0, 0, 0, 2) + mesh.cell(0, 0, 1, 2) + mesh.cell(0, 0, 2, 2));
        CHECK.due("GOT", 3, mesh.cell(1, 0, 0, 2) + mesh.cell(1, 0, 1, 2));
        CHECK.due("two thirds, cut", 666, mesh.shares(0, 999));
        CHECK.due("two thirds, cut", 66, mesh.shares(0, 100));
        CHECK.due("a third, cut", 33, mesh.shares(1, 100));
        CHECK.due("none", 0, mesh.shares(2, 100));
        CHECK.due("of 0", 0, mesh.shares(0, 0));
        CHECK.due("out of bounds", NONE, mesh.shares(0, 1000));
        CHECK.due("out of bounds", NONE, mesh.shares(0, -1));
        CHECK.due("no such PAIR", NONE, mesh.shares(3, 1));
        CHECK.due("no such PAIR", NONE, mesh.shares(-1, 1));
    }

    private static void apartLeavesAll() {
        HoppingMesh mesh = Check.mesh("p;pa1b2k3l4;pa2b0");
        mesh.years(30, 5);
        mesh.deal(0, 0, 1);
        HoppingMesh same = Check.mesh("p;pa1b2k3l4;pa2b0");
        same.years(30, 5);
        same.deal(0, 0, 1);
        mesh.comes(0, 60, 0);
        mesh.healed();
        mesh.steady();
        mesh.harm(6, 0);
        mesh.odds(6, 50);
        mesh.offer(0, 0, 0, 0);
        mesh.frames(7);
        same.frames(7);
        for (int p = 0; p < 3; p++) {
            for (int what = 0; what <= 10; what++) {
                CHECK.due("pair(" + p + ", " + what + ")", same.pair(p, what), mesh.pair(p, what));
            }
        }
        CHECK.due("ACTS", same.count(6), mesh.count(6));
        CHECK.due("LOG", same.count(5), mesh.count(5));
    }
}
