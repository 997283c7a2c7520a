/** The bounds that promises 1 to 5 name: a new object, feed, end, fault, text. */
public final class Bounds01To05Test {
    private static final Check CHECK = new Check();
    private static final Twins TWINS = new Twins(CHECK);
    private static final int NONE = HoppingMesh.NONE;
    private static final int HIDDEN = HoppingMesh.HIDDEN;
    private static final int BLANKS = 0x20202020;

    public static void main(String[] args) {
        p1NothingIsThereYet();
        p1NothingIsShared();
        p2HighestFirst();
        p2ZerosAreLeftOut();
        p2SignsAbove127();
        p2FullTape();
        p2Refused();
        p3FirstBytesAlone();
        p3OutOfBounds();
        p3RoomAgain();
        p4NoSuchSort();
        p4EmptyTape();
        p4Clauses();
        p4SecondS();
        p4SeventhP();
        p4LettersOnce();
        p4LettersOfTheOtherClause();
        p4NumbersOfRules();
        p4NumbersOfPairs();
        p4Digits();
        p4EarlyEnds();
        p4OneNodeAlone();
        p4TwoPairsAlike();
        p4Blanks();
        p4OtherSigns();
        p4Hops();
        p4BlanksOfHops();
        p5PairsAndHops();
        p5TapeIsEmptyThen();
        p5Refused();
        p5WhatIsGone();
        p5WhatStays();
        p5HopsLeaveTheMesh();
        p5NothingOfTheFormerText();
        CHECK.end("Bounds01To05Test", 1, 5);
    }

    private static void p1NothingIsThereYet() {
        CHECK.promise(1, "no MESH, no HOPS");
        HoppingMesh mesh = new HoppingMesh();
        int[] counts = {0, 0, 0, 0, 2, 0, 0};
        for (int what = 0; what < counts.length; what++) {
            CHECK.due("count(" + what + ")", counts[what], mesh.count(what));
        }
        CHECK.due("fault(0)", 0, mesh.fault(0));
        CHECK.due("fault(1)", 0, mesh.fault(1));
        CHECK.due("text(0)", NONE, mesh.text(0));
        CHECK.due("text(1)", NONE, mesh.text(1));
        for (int what = 0; what <= 4; what++) {
            CHECK.due("rule(" + what + ")", NONE, mesh.rule(what));
        }
        for (int what = 0; what <= 10; what++) {
            CHECK.throwsNoSuchElement(mesh, 0, what);
        }
        CHECK.due("cell", NONE, mesh.cell(0, 0, 0, 0));
        CHECK.due("cell", NONE, mesh.cell(0, 1, 0, 0));
        CHECK.due("waits", NONE, mesh.waits(0, 0, 0));
        CHECK.due("waits", NONE, mesh.waits(0, 1, 2));
        CHECK.due("letter", NONE, mesh.letter(0, 0));
        CHECK.due("letter", NONE, mesh.letter(0, 5));
        CHECK.due("channel", NONE, mesh.channel(0, 0));
        CHECK.due("years", NONE, mesh.years(1, 1));
        CHECK.due("undo", NONE, mesh.undo());
        CHECK.due("log", NONE, mesh.log(0, 0));
        CHECK.due("offer", NONE, mesh.offer(0, 0, 0, NONE));
        CHECK.due("comes", NONE, mesh.comes(0, 0, 0));
        CHECK.due("agree", NONE, mesh.agree(0));
        CHECK.due("healed", NONE, mesh.healed());
        CHECK.due("steady", NONE, mesh.steady());
        CHECK.due("harm", NONE, mesh.harm(1, 0));
        CHECK.due("odds", NONE, mesh.odds(0, 0));
        CHECK.due("shares", NONE, mesh.shares(0, 0));
        CHECK.due("node", NONE, mesh.node(0, 0));
        for (int what = 0; what <= 9; what++) {
            CHECK.due("most(" + what + ")", HIDDEN, mesh.most(what));
        }
        CHECK.due("image", NONE, mesh.image());
        CHECK.due("back", NONE, mesh.back());
        CHECK.status(mesh, 0, 0, 0, 0, 0);
        CHECK.due("frames", NONE, mesh.frames(1));
        CHECK.due("deal", NONE, mesh.deal(0, 3, 0));
        CHECK.due("lose", NONE, mesh.lose(0));
        CHECK.due("jam", NONE, mesh.jam(0));
        CHECK.due("load", NONE, mesh.load(0, 0));
        CHECK.due("auto", NONE, mesh.auto());
        CHECK.status(mesh, 6, 0, 0, 0, 0);
        TWINS.unchanged("all refused", m -> { }, m -> {
            m.frames(1);
            m.deal(0, 3, 0);
            m.jam(0);
            m.auto();
            m.image();
            m.back();
            m.undo();
            m.years(1, 1);
            m.text(0);
        }, 4);
    }

    private static void p1NothingIsShared() {
        CHECK.promise(1, "another object leaves a new one alone");
        HoppingMesh used = Check.mesh("su0;p", "123");
        used.loss(9);
        used.deal(0, 0, 3);
        used.frames(40);
        used.jam(99);
        Check.feed(used, "abc");
        HoppingMesh mesh = new HoppingMesh();
        TWINS.alike("new", new HoppingMesh(), mesh);
        CHECK.status(mesh, 1, 0, 0, 0, 0);
        CHECK.due("the used one", 40, used.count(3));
        CHECK.due("the used one", 3, used.pair(0, 9));
    }

    private static void p2HighestFirst() {
        CHECK.promise(2, "of each number the highest first");
        HoppingMesh mesh = Check.mesh("sw16c1;p");
        CHECK.due("feed", 20, mesh.feed(0x30313233, 0x34353637, 0x38393837, 0x36353433, 0x20202020));
        CHECK.due("text", 16, mesh.text(1));
        String due = "0123456789876543";
        for (int slot = 0; slot < 16; slot++) {
            CHECK.due("HOP " + slot, due.charAt(slot) - '0', mesh.channel(0, 10 * slot));
        }
    }

    private static void p2ZerosAreLeftOut() {
        CHECK.promise(2, "bytes of 0 are left out");
        HoppingMesh mesh = Check.mesh("sw16c1;p");
        CHECK.due("none", 0, mesh.feed(0, 0, 0, 0, 0));
        CHECK.due("one in each place", 4, mesh.feed(0x31000000, 0x320000, 0x3300, 0x34, 0));
        CHECK.due("between others", 8, mesh.feed(0x35003600, 0x370038, 0, 0, 0));
        CHECK.due("the last number", 9, mesh.feed(0, 0, 0, 0, 0x3900));
        CHECK.due("none", 9, mesh.feed(0, 0, 0, 0, 0));
        CHECK.due("text", 9, mesh.text(1));
        for (int slot = 0; slot < 9; slot++) {
            CHECK.due("HOP " + slot, slot + 1, mesh.channel(0, 10 * slot));
        }
    }

    private static void p2SignsAbove127() {
        CHECK.promise(2, "bytes up to 255");
        for (int place = 0; place < 4; place++) {
            HoppingMesh mesh = new HoppingMesh();
            int word = BLANKS & ~(255 << 8 * place) | 255 << 8 * place;
            CHECK.due("feed", 4, mesh.feed(word, 0, 0, 0, 0));
            CHECK.due("fault(0)", 3 - place, mesh.fault(0));
            CHECK.due("fault(1)", 3 - place, mesh.fault(1));
        }
        HoppingMesh mesh = new HoppingMesh();
        CHECK.due("all of 255", 20, mesh.feed(-1, -1, -1, -1, -1));
        CHECK.due("the least number", 21, mesh.feed(Integer.MIN_VALUE, 0, 0, 0, 0));
        CHECK.due("the greatest number", 25, mesh.feed(Integer.MAX_VALUE, 0, 0, 0, 0));
    }

    /** Blanks up to 240 less left. */
    private static HoppingMesh nearlyFull(int left) {
        HoppingMesh mesh = new HoppingMesh();
        for (int i = 0; i < 11; i++) {
            mesh.feed(BLANKS, BLANKS, BLANKS, BLANKS, BLANKS);
        }
        for (int i = 0; i < 20 - left; i++) {
            mesh.feed(0, 0, 0, 0, ' ');
        }
        return mesh;
    }

    private static void p2FullTape() {
        CHECK.promise(2, "240 bytes, not more");
        CHECK.due("220", 220, nearlyFull(20).count(2));
        CHECK.due("220 and 20", 240, nearlyFull(20).feed(BLANKS, BLANKS, BLANKS, BLANKS, BLANKS));
        CHECK.due("221 and 20", NONE, nearlyFull(19).feed(BLANKS, BLANKS, BLANKS, BLANKS, BLANKS));
        CHECK.due("221 and 19", 240, nearlyFull(19).feed(BLANKS, BLANKS, 0x20202000, BLANKS, BLANKS));
        CHECK.due("239 and 1", 240, nearlyFull(1).feed(0, 0, 0x2000, 0, 0));
        CHECK.due("239 and 2", NONE, nearlyFull(1).feed(0x20, 0, 0, 0, 0x20000000));
        CHECK.due("240 and none", 240, nearlyFull(0).feed(0, 0, 0, 0, 0));
        for (int i = 0; i < 20; i++) {
            for (int sign : new int[] {1, 128, 255}) {
                int[] words = new int[5];
                words[i / 4] = sign << 8 * (i % 4);
                CHECK.due("240 and one", NONE, nearlyFull(0).feed(words[0], words[1], words[2], words[3], words[4]));
                CHECK.due("239 and one", 240, nearlyFull(1).feed(words[0], words[1], words[2], words[3], words[4]));
            }
        }
        HoppingMesh mesh = nearlyFull(1);
        mesh.feed(0, 'p', 0, 0, 0);
        CHECK.due("the 240th is read", NONE, mesh.fault(0));
        CHECK.due("the 240th is read", 239, mesh.fault(1));
        CHECK.due("a TEXT of 240", 1, mesh.text(0));
    }

    private static void p2Refused() {
        CHECK.promise(2, "refused: none of the bytes comes");
        HoppingMesh mesh = nearlyFull(3);
        CHECK.due("four", NONE, mesh.feed(0x70703b3b, 0, 0, 0, 0));
        CHECK.due("count(2)", 237, mesh.count(2));
        CHECK.due("fault(0)", 237, mesh.fault(0));
        CHECK.due("three", 240, mesh.feed(0x20207000, 0, 0, 0, 0));
        CHECK.due("text(0)", 1, mesh.text(0));
        TWINS.unchanged("no room", m -> {
            Check.tell(m, "p", 0);
            Check.feed(m, "p".repeat(240));
        }, m -> m.feed(1, 0, 0, 0, 0));
    }

    private static void p3FirstBytesAlone() {
        CHECK.promise(3, "its first n bytes alone");
        for (int n = 0; n <= 5; n++) {
            HoppingMesh mesh = new HoppingMesh();
            Check.feed(mesh, "12345");
            CHECK.due("end(" + n + ")", true, mesh.end(n));
            CHECK.due("count(2)", n, mesh.count(2));
            CHECK.due("text(1)", n == 0 ? NONE : n, mesh.text(1));
        }
        HoppingMesh full = nearlyFull(0);
        CHECK.due("end(240)", true, full.end(240));
        CHECK.due("count(2)", 240, full.count(2));
        CHECK.due("end(239)", true, full.end(239));
        CHECK.due("count(2)", 239, full.count(2));
        HoppingMesh empty = new HoppingMesh();
        CHECK.due("end(0) of none", true, empty.end(0));
        CHECK.due("count(2)", 0, empty.count(2));
    }

    private static void p3OutOfBounds() {
        CHECK.promise(3, "false: n");
        int[] wrong = {-1, 6, 240, 241, Integer.MIN_VALUE, Integer.MAX_VALUE};
        for (int n : wrong) {
            HoppingMesh mesh = new HoppingMesh();
            Check.feed(mesh, "pa1b2");
            CHECK.due("end(" + n + ")", false, mesh.end(n));
            CHECK.due("count(2)", 5, mesh.count(2));
            CHECK.due("text(0)", 1, mesh.text(0));
            CHECK.due("pair(0, 1)", 2, mesh.pair(0, 1));
            CHECK.due("end(" + n + ") of none", false, mesh.end(n));
        }
        CHECK.due("end(1) of none", false, new HoppingMesh().end(1));
        CHECK.due("end(241) of 240", false, nearlyFull(0).end(241));
        TWINS.unchanged("out of bounds", m -> {
            Check.tell(m, "p", 0);
            Check.feed(m, "12");
        }, m -> {
            m.end(-1);
            m.end(3);
        });
    }

    private static void p3RoomAgain() {
        CHECK.promise(3, "what comes later stands behind the first n");
        HoppingMesh mesh = nearlyFull(0);
        CHECK.due("end(1)", true, mesh.end(1));
        CHECK.due("room again", 5, mesh.feed(0x70613362, 0, 0, 0, 0));
        CHECK.due("early end", 5, mesh.fault(0));
        CHECK.due("room again", 6, mesh.feed('4', 0, 0, 0, 0));
        CHECK.due("text(0)", 1, mesh.text(0));
        CHECK.due("pair(0, 0)", 3, mesh.pair(0, 0));
        CHECK.due("pair(0, 1)", 4, mesh.pair(0, 1));
    }

    /** The FAULT; a TEXT without one can be told, one with a FAULT can't and the TAPE stays. */
    private static void fault(int sort, int want, String text) {
        HoppingMesh mesh = new HoppingMesh();
        Check.feed(mesh, text);
        CHECK.due("fault(" + sort + ") of '" + text + "'", want, mesh.fault(sort));
        CHECK.due("asked again", want, mesh.fault(sort));
        CHECK.due("the TAPE stays", text.length(), mesh.count(2));
        int told = mesh.text(sort);
        CHECK.due("text(" + sort + ") of '" + text + "'", want == NONE, told > 0);
        CHECK.due("the TAPE then", want == NONE ? 0 : text.length(), mesh.count(2));
    }

    private static void p4NoSuchSort() {
        CHECK.promise(4, "-2: no such sort");
        int[] wrong = {-2, -1, 2, 3, Integer.MIN_VALUE, Integer.MAX_VALUE};
        for (int sort : wrong) {
            HoppingMesh mesh = new HoppingMesh();
            CHECK.due("fault(" + sort + ") of none", -2, mesh.fault(sort));
            Check.feed(mesh, "p");
            CHECK.due("fault(" + sort + ")", -2, mesh.fault(sort));
        }
    }

    private static void p4EmptyTape() {
        CHECK.promise(4, "the length, if it ends too early: nothing is there");
        fault(0, 0, "");
        fault(1, 0, "");
        fault(0, 1, " ");
        fault(1, 1, " ");
        HoppingMesh full = nearlyFull(0);
        CHECK.due("240 blanks", 240, full.fault(0));
        CHECK.due("240 blanks", 240, full.fault(1));
    }

    private static void p4Clauses() {
        CHECK.promise(4, "CLAUSES with ; between, in any order");
        fault(0, NONE, "p");
        fault(0, NONE, "s;p");
        fault(0, NONE, "p;s");
        fault(0, NONE, "p;s;pa1b0");
        fault(0, 0, ";");
        fault(0, 0, ";p");
        fault(0, 2, "p;");
        fault(0, 2, "p;;s");
        fault(0, 1, "pp");
        fault(0, 1, "ps");
        fault(0, 1, "sp");
        fault(0, 0, "1");
        fault(0, 0, "a1");
        fault(0, 2, "p;1");
        fault(0, 2, "p;w4");
    }

    private static void p4SecondS() {
        CHECK.promise(4, "one s at most, a second at it");
        fault(0, 2, "s;s");
        fault(0, 2, "s;s;p");
        fault(0, 4, "s;p;s");
        fault(0, 4, "p;s;s");
        fault(0, 6, "p;sw4;s");
        fault(0, 5, "p;s ;s");
    }

    private static void p4SeventhP() {
        CHECK.promise(4, "p 1 .. 6, a seventh at it");
        String six = "pb1;pb2;pb3;pb4;pb5;pa1b0";
        fault(0, 1, "s");
        fault(0, 6, "sw4c2 ");
        fault(0, NONE, "pb1");
        fault(0, NONE, six.substring(0, 19));
        fault(0, NONE, six);
        fault(0, 26, six + ";pa1b2");
        fault(0, 26, six + ";p");
        fault(0, NONE, six + ";s");
        fault(0, 28, six + ";s;pa1b2");
        fault(0, 28, "s;" + six + ";pa1b2");
        fault(0, 28, "s;" + six + ";s");
        fault(0, 28, "s;" + six + ";");
        fault(0, 26, six + ";");
        fault(0, 12, "p;p;p;p;p;p;p");
    }

    private static void p4LettersOnce() {
        CHECK.promise(4, "each letter once at most in a CLAUSE, one that was there at it");
        String rules = "w4c2t3m4u1";
        String items = "a2b3k2l1";
        for (int i = 0; i < rules.length(); i += 2) {
            String item = rules.substring(i, i + 2);
            fault(0, 3, "s" + item + item + ";p");
            fault(0, 11, "s" + rules + item + ";p");
            fault(0, 4, "s" + item + " " + item.charAt(0));
        }
        for (int i = 0; i < items.length(); i += 2) {
            String item = items.substring(i, i + 2);
            fault(0, 3, "p" + item + item);
            fault(0, 9, "p" + items + item);
            fault(0, NONE, "pa4b5" + (i < 4 ? "" : item) + ";p" + items);
        }
        fault(0, NONE, "s" + rules + ";p" + items);
        fault(0, NONE, "su1m4t3c2w4;pl1k2b3a2");
    }

    private static void p4LettersOfTheOtherClause() {
        CHECK.promise(4, "ITEMS of s, of p");
        for (char letter : "abkl".toCharArray()) {
            fault(0, 1, "s" + letter + "2;p");
        }
        for (char letter : "wctmu".toCharArray()) {
            fault(0, 1, "p" + letter + "4");
        }
        for (char letter : "defghijnoqrvxyzWP".toCharArray()) {
            fault(0, 1, "s" + letter + "4;p");
            fault(0, 1, "p" + letter + "4");
        }
    }

    /** One number, with a 0 ahead of it, too, if that makes two digits. */
    private static void number(String start, int n, boolean fits, String behind) {
        int at = start.length();
        fault(0, fits ? NONE : at + (n < 10 ? 0 : 1), start + n + behind);
        if (n < 10) {
            fault(0, fits ? NONE : at + 1, start + "0" + n + behind);
        }
    }

    /** All numbers of one and two digits, and some of three. */
    private static void numbers(String start, int least, int most, String behind) {
        int at = start.length();
        for (int n = 0; n <= 99; n++) {
            number(start, n, n >= least && n <= most, behind);
        }
        fault(0, at + 2, start + "00" + least + behind);
        fault(0, at + 2, start + "0" + most + "0" + behind);
        fault(0, at + 2, start + "990" + behind);
        fault(0, at + 2, start + least + "00" + behind);
    }

    private static void p4NumbersOfRules() {
        CHECK.promise(4, "bounds of s: a number out of bounds is wrong at its last digit");
        numbers("p;sw", 4, 16, "");
        numbers("p;sc", 1, 4, "");
        numbers("p;st", 2, 9, "");
        numbers("p;sm", 2, 9, "");
        numbers("p;su", 0, 1, "");
        numbers("sw", 4, 16, ";p");
        numbers("sc2 t", 2, 9, " m3;p");
    }

    private static void p4NumbersOfPairs() {
        CHECK.promise(4, "bounds of p: a number out of bounds is wrong at its last digit");
        for (int n = 0; n <= 99; n++) {
            number("pa", n, n <= 5, n == 5 ? "b4" : "b5");
            number(n == 5 ? "pa4b" : "pa5b", n, n <= 5, "");
        }
        fault(0, 4, "pa005b4");
        fault(0, 6, "pa4b005");
        numbers("pk", 2, 3, "");
        numbers("pl", 0, 9, "");
        numbers("s;pa1b0l", 0, 9, "k3;pa2b3");
    }

    private static void p4Digits() {
        CHECK.promise(4, "one or two digits, a third digit itself, whatever stands ahead of it");
        fault(0, 2, "sw;p");
        fault(0, 2, "swc2;p");
        fault(0, 2, "sw-4;p");
        fault(0, 3, "sw17;p");
        fault(0, 2, "sw3;p");
        fault(0, 2, "sw1;p");
        fault(0, 4, "sw161;p");
        fault(0, 4, "sw171;p");
        fault(0, 4, "sw001;p");
        fault(0, 4, "sw004;p");
        fault(0, 4, "sw0041;p");
        fault(0, 4, "pl123");
        fault(0, 4, "pa999;x");
        fault(0, 2, "pa:");
        fault(0, 2, "pa/");
        fault(0, 3, "pa1:");
        fault(0, 3, "pa1/");
    }

    private static void p4EarlyEnds() {
        CHECK.promise(4, "the length, if it ends too early");
        String whole = "sw4;pa1b0;p";
        int[] due = {0, 1, 2, 3, 4, NONE, 6, 7, 8, NONE, 10, NONE};
        for (int n = 0; n <= whole.length(); n++) {
            fault(0, due[n], whole.substring(0, n));
        }
        fault(0, 4, "p;sc");
        fault(0, 6, "p;sc  ");
        fault(0, 4, "p;  ");
        fault(0, 1, "s");
        fault(0, 11, "sw4c2t3m4u1");
    }

    private static void p4OneNodeAlone() {
        CHECK.promise(4, "the length: a PAIR of one NODE alone");
        for (int a = 0; a <= 5; a++) {
            for (int b = 0; b <= 5; b++) {
                fault(0, a == b ? 5 : NONE, "pa" + a + "b" + b);
            }
            fault(0, a == 1 ? 3 : NONE, "pa" + a);
            fault(0, a == 0 ? 3 : NONE, "pb" + a);
        }
        fault(0, 6, "pa1;s ");
        fault(0, 7, "s;p;pb0");
        fault(0, 9, "pb0;pa2b3");
        fault(0, 4, "pb0;x");
        fault(0, 5, "pb0;p1");
    }

    private static void p4TwoPairsAlike() {
        CHECK.promise(4, "the length: two PAIRS that have one SENDER and one RECEIVER");
        fault(0, 3, "p;p");
        fault(0, 5, "p;p;s");
        fault(0, 7, "p;pa0b1");
        fault(0, 13, "pa2b3k2;pb3a2");
        fault(0, 17, "pa2b3;pa1b0;pa2b3");
        fault(0, 17, "pa1b0;pa2b3;pa2b3");
        fault(0, 17, "pa2b3;pa2b3;pa1b0");
        fault(0, NONE, "pa2b3;pa3b2");
        fault(0, NONE, "pa2b3;pa2b4");
        fault(0, NONE, "pa2b3;pa4b3");
        fault(0, NONE, "p;pa1b0");
        fault(0, 4, "p;p;x");
    }

    private static void p4Blanks() {
        CHECK.promise(4, "blanks between all signs, not within numbers");
        fault(0, NONE, " s w 16 c 2 t 3 m 4 u 1 ; p a 0 b 1 k 2 l 1 ");
        fault(0, NONE, "  p  ;  s  ;  p  a  1  b  0  ");
        fault(0, NONE, " ".repeat(100) + "p" + " ".repeat(100) + "l" + " ".repeat(30) + "9      ");
        fault(0, 3, "sw 1 6;p");
        fault(0, 5, "sw 4 4;p");
        fault(0, 6, "sw 04 4;p");
        fault(0, 6, "sw  4 16");
        fault(0, 5, "pl 0 1");
        fault(0, 3, "sw 3;p");
        fault(0, 4, "sw 17;p");
    }

    private static void p4OtherSigns() {
        CHECK.promise(4, "no other signs");
        for (int sign = 1; sign <= 255; sign++) {
            char c = (char) sign;
            boolean starts = c == 'p' || c == ' ';
            fault(0, starts ? NONE : c == 's' ? 1 : 0, c == 's' ? "sp" : c + "" + (c == 'p' ? "" : "p"));
            boolean goesOn = c == ' ';
            fault(0, goesOn ? NONE : c == ';' || "abkl".indexOf(c) >= 0 ? 2 : 1, "p" + c);
            boolean digit = c >= '0' && c <= '9';
            fault(1, digit || c == ' ' ? NONE : 1, "1" + c);
        }
    }

    private static void p4Hops() {
        CHECK.promise(4, "HOPS: 1 to 16 digits, a 17th at it");
        String digits = "01234567890123456789";
        for (int n = 1; n <= 16; n++) {
            fault(1, NONE, digits.substring(0, n));
        }
        fault(1, 16, digits.substring(0, 17));
        fault(1, 16, digits.substring(0, 18));
        fault(1, 16, digits.substring(0, 16) + "x");
        fault(1, 15, digits.substring(0, 15) + "x9");
        fault(1, 1, "1;1");
        fault(1, 0, "-1");
        fault(1, 0, "p");
    }

    private static void p4BlanksOfHops() {
        CHECK.promise(4, "between HOPS blanks may stand");
        fault(1, NONE, " 1");
        fault(1, NONE, "1 ");
        fault(1, NONE, "  1  2  ");
        fault(1, NONE, "1 2 3 4 5 6 7 8 9 0 1 2 3 4 5 6 ");
        fault(1, 32, "1 2 3 4 5 6 7 8 9 0 1 2 3 4 5 6 7");
        fault(1, 3, "   ");
        fault(1, 4, "  1 x");
    }

    private static void p5PairsAndHops() {
        CHECK.promise(5, "how many PAIRS, how many HOPS");
        String mesh = "pb1";
        String hops = "";
        for (int n = 1; n <= 6; n++) {
            HoppingMesh told = new HoppingMesh();
            Check.feed(told, mesh);
            CHECK.due("text(0) of " + mesh, n, told.text(0));
            CHECK.due("count(0)", n, told.count(0));
            mesh = mesh + ";pa" + n + "b0";
        }
        for (int n = 1; n <= 16; n++) {
            hops = hops + n % 10;
            HoppingMesh told = new HoppingMesh();
            Check.feed(told, hops);
            CHECK.due("text(1) of " + hops, n, told.text(1));
            CHECK.due("count(1)", n, told.count(1));
            CHECK.due("count(0)", 0, told.count(0));
        }
    }

    private static void p5TapeIsEmptyThen() {
        CHECK.promise(5, "the TAPE is empty then");
        HoppingMesh mesh = new HoppingMesh();
        Check.feed(mesh, "p");
        mesh.text(0);
        CHECK.due("count(2)", 0, mesh.count(2));
        CHECK.due("fault(0)", 0, mesh.fault(0));
        CHECK.due("text(0) again", NONE, mesh.text(0));
        CHECK.due("the MESH stays", 1, mesh.count(0));
        Check.feed(mesh, "12");
        mesh.text(1);
        CHECK.due("count(2)", 0, mesh.count(2));
        CHECK.due("text(1) again", NONE, mesh.text(1));
        CHECK.due("HOPS stay", 2, mesh.count(1));
    }

    private static void busy(HoppingMesh mesh) {
        Check.tell(mesh, "su0;pl3;pa1b2k3", 0);
        Check.tell(mesh, "0123", 1);
        mesh.deal(0, 0, 2);
        mesh.deal(1, 0, 2);
        mesh.frames(2);
        mesh.image();
        mesh.jam(1);
        mesh.deal(0, 2, 1);
    }

    private static void p5Refused() {
        CHECK.promise(5, "NONE: a FAULT, no such sort; all stays");
        String[] wrong = {"", " ", "s", "p;p", "px", "pa1", "01234567890123456", "1;", ";"};
        for (String text : wrong) {
            TWINS.unchanged("'" + text + "'", m -> {
                busy(m);
                Check.feed(m, text);
            }, m -> {
                CHECK.due("text(0)", NONE, m.text(0));
                CHECK.due("text(1)", NONE, m.text(1));
            });
        }
        TWINS.unchanged("no such sort", m -> {
            busy(m);
            Check.feed(m, "p");
        }, m -> {
            int[] sorts = {-2, -1, 2, 3, Integer.MIN_VALUE, Integer.MAX_VALUE};
            for (int sort : sorts) {
                CHECK.due("text(" + sort + ")", NONE, m.text(sort));
            }
            CHECK.due("text(1) of a MESH", NONE, m.text(1));
        });
        TWINS.unchanged("HOPS as a MESH", m -> {
            busy(m);
            Check.feed(m, "12");
        }, m -> CHECK.due("text(0) of HOPS", NONE, m.text(0)));
    }

    private static void p5WhatIsGone() {
        CHECK.promise(5, "FRAME 0; all that was of another one is gone");
        HoppingMesh mesh = new HoppingMesh();
        busy(mesh);
        mesh.auto();
        mesh.load(0, 9);
        mesh.years(30, 7);
        Check.tell(mesh, "su0;pl3;pa1b2k3", 0);
        HoppingMesh fresh = Check.mesh("su0;pl3;pa1b2k3", "0123");
        CHECK.due("FRAME", 0, mesh.count(3));
        CHECK.due("LOG", 0, mesh.count(5));
        CHECK.due("ACTS", 0, mesh.count(6));
        CHECK.due("undo", NONE, mesh.undo());
        CHECK.due("back", NONE, mesh.back());
        TWINS.alike("as on a new object", fresh, mesh);
        Check.tell(mesh, "p", 0);
        CHECK.throwsNoSuchElement(mesh, 1, 0);
        CHECK.due("the second PAIR", NONE, mesh.agree(1));
    }

    private static void p5WhatStays() {
        CHECK.promise(5, "but HOPS, LOSS, STATUS");
        HoppingMesh mesh = Check.mesh("p", "957");
        mesh.loss(0);
        mesh.frames(0);
        mesh.lose(0);
        mesh.lose(9);
        Check.tell(mesh, "sw4c1;pa3b4", 0);
        CHECK.due("HOPS", 3, mesh.count(1));
        CHECK.due("HOPS", 9, mesh.channel(0, 0));
        CHECK.due("HOPS", 5, mesh.channel(0, 10));
        CHECK.due("HOPS", 7, mesh.channel(0, 20));
        CHECK.due("LOSS", 0, mesh.count(4));
        CHECK.status(mesh, 1, 1, 1, 0, 0);
    }

    private static void p5HopsLeaveTheMesh() {
        CHECK.promise(5, "HOPS told anew, the later ones; the MESH stays");
        HoppingMesh mesh = new HoppingMesh();
        busy(mesh);
        int acts = mesh.count(6);
        Check.tell(mesh, "9", 1);
        CHECK.due("HOPS", 1, mesh.count(1));
        CHECK.due("HOPS", 9, mesh.channel(3, 11));
        CHECK.due("FRAME", 2, mesh.count(3));
        CHECK.due("ACTS", acts, mesh.count(6));
        CHECK.due("PAIRS", 2, mesh.count(0));
        CHECK.due("LETTERS", 3, mesh.most(3));
        CHECK.due("JAMMED", 2, mesh.most(8));
        CHECK.due("undo", acts - 1, mesh.undo());
        CHECK.due("HOPS are no ACT", 1, mesh.count(1));
        CHECK.due("back", 2, mesh.back());
        CHECK.due("HOPS are not of the IMAGE", 9, mesh.channel(0, 0));
        Check.tell(mesh, "0123456789012345", 1);
        CHECK.due("more HOPS", 16, mesh.count(1));
        CHECK.due("more HOPS", 1, mesh.channel(0, 10));
    }

    private static void p5NothingOfTheFormerText() {
        CHECK.promise(5, "what is not told is as without");
        HoppingMesh mesh = Check.mesh("sw16c4t9m9u0;pa4b5k3l9;pa2b3k3l9");
        Check.tell(mesh, "p;pa1b0", 0);
        int[] rules = {10, 2, 3, 4, 1};
        for (int what = 0; what < 5; what++) {
            CHECK.due("rule(" + what + ")", rules[what], mesh.rule(what));
        }
        int[] usual = {0, 1, 2, 1};
        for (int what = 0; what < 4; what++) {
            CHECK.due("pair(0, " + what + ")", usual[what], mesh.pair(0, what));
        }
        CHECK.due("pair(1, 3)", 1, mesh.pair(1, 3));
        HoppingMesh faulty = new HoppingMesh();
        Check.feed(faulty, "sw16c4t9m9u0;pk3l9;x");
        CHECK.due("a FAULT", NONE, faulty.text(0));
        CHECK.due("read in vain", NONE, faulty.rule(0));
        Check.tell(faulty, "p", 0);
        CHECK.due("rule(0)", 10, faulty.rule(0));
        CHECK.due("pair(0, 2)", 2, faulty.pair(0, 2));
    }
}
