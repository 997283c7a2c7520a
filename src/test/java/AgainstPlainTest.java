import java.util.ArrayList;
import java.util.List;
import java.util.NoSuchElementException;
import java.util.Random;

/** Drawn runs of calls: HoppingMesh must answer as PlainMesh does. Arguments: how many runs, the first seed. */
public final class AgainstPlainTest {
    private static final String SIGNS = "swctmupabkl;0123456789  x,-";

    private final Random random;
    private final HoppingMesh mesh = new HoppingMesh();
    private final PlainMesh plain = new PlainMesh();
    private final List<String> calls = new ArrayList<>();
    private boolean wrong;

    private AgainstPlainTest(long seed) {
        random = new Random(seed);
    }

    public static void main(String[] args) {
        int runs = args.length > 0 ? Integer.parseInt(args[0]) : 250;
        long first = args.length > 1 ? Long.parseLong(args[1]) : 1;
        long answers = 0;
        for (int i = 0; i < runs; i++) {
            AgainstPlainTest run = new AgainstPlainTest(first + i);
            run.go(i % 10);
            answers += run.calls.size();
            if (run.wrong) {
                System.out.println("seed " + (first + i));
                System.exit(1);
            }
        }
        System.out.println("AgainstPlainTest: " + runs + " runs, " + answers + " answers as due");
    }

    private int below(int n) {
        return random.nextInt(n);
    }

    /** Mostly within bounds, sometimes just outside or far off. */
    private int near(int least, int most) {
        int way = below(40);
        if (way == 0) {
            return least - 1;
        }
        if (way == 1) {
            return most + 1;
        }
        if (way == 2) {
            return random.nextInt();
        }
        return least + below(most - least + 1);
    }

    private void same(String call, long due, long got) {
        calls.add(call + " = " + got);
        if (due != got && !wrong) {
            wrong = true;
            calls.forEach(System.out::println);
            System.out.println(call + " answered " + got + ", due is " + due);
        }
    }

    private void go(int sort) {
        if (sort == 0) {
            for (int i = 0; i < 100 && !wrong; i++) {
                tellDrawnSigns();
            }
            return;
        }
        for (int i = 0; i < 3; i++) {
            askAll();
            act();
        }
        int meshes = 1 + below(2);
        for (int m = 0; m < meshes && !wrong; m++) {
            tellMesh();
            int acts = 30 + below(120);
            int queries = sort < 5 ? 3 : 1;
            for (int i = 0; i < acts && !wrong; i++) {
                act();
                askAll();
                for (int q = 0; q < queries; q++) {
                    askAhead();
                }
            }
        }
        if (sort == 9) {
            for (int i = 0; i < 260 && !wrong; i++) {
                int n = 37 + below(5);
                same("frames(" + n + ")", plain.frames(n), mesh.frames(n));
            }
            for (int i = 0; i < 30 && !wrong; i++) {
                act();
                askAll();
                askAhead();
            }
        }
    }

    private void feed(String text) {
        for (int i = 0; i < text.length(); i += 20) {
            int[] w = new int[5];
            for (int j = 0; j < 20 && i + j < text.length(); j++) {
                w[j / 4] |= (text.charAt(i + j) & 255) << 24 - j % 4 * 8;
            }
            same("feed " + text.substring(i, Math.min(text.length(), i + 20)),
                    plain.feed(w[0], w[1], w[2], w[3], w[4]), mesh.feed(w[0], w[1], w[2], w[3], w[4]));
        }
    }

    private void finish(int n) {
        same("end(" + n + ")", plain.end(n) ? 1 : 0, mesh.end(n) ? 1 : 0);
    }

    private String blanks() {
        return below(8) == 0 ? " " : "";
    }

    private String item(String letter, int least, int most) {
        return blanks() + letter + blanks() + (least + below(most - least + 1)) + blanks();
    }

    private String drawnMesh() {
        List<String> clauses = new ArrayList<>();
        boolean small = below(2) == 0;
        if (below(5) > 0) {
            StringBuilder s = new StringBuilder("s");
            s.append(item("w", 4, small ? 6 : 16));
            s.append(below(3) > 0 ? item("c", 1, 4) : "");
            s.append(below(2) > 0 ? item("t", 2, 9) : "");
            s.append(below(2) > 0 ? item("m", 2, 9) : "");
            s.append(below(2) > 0 ? item("u", 0, 1) : "");
            clauses.add(s.toString());
        }
        int pairs = 1 + below(6);
        List<Integer> ways = new ArrayList<>();
        for (int tries = 0; ways.size() < pairs && tries < 100; tries++) {
            int a = below(small ? 3 : 6);
            int b = below(small ? 3 : 6);
            if (a != b && !ways.contains(a * 10 + b)) {
                ways.add(a * 10 + b);
                String p = "p" + blanks() + "a" + a + item("k", 2, 3) + "b" + b + (below(4) > 0 ? item("l", 0, 9) : "");
                clauses.add(below(clauses.size() + 1), p);
            }
        }
        return String.join(";", clauses);
    }

    private void tellMesh() {
        finish(0);
        if (below(2) == 0) {
            StringBuilder hops = new StringBuilder();
            for (int i = 1 + below(16); i > 0; i--) {
                hops.append(blanks()).append(below(3) == 0 ? below(10) : below(3));
            }
            feed(hops.toString());
            same("text(1)", plain.text(1), mesh.text(1));
        }
        feed(drawnMesh());
        same("fault(0)", plain.fault(0), mesh.fault(0));
        same("text(0)", plain.text(0), mesh.text(0));
    }

    /** A right TEXT with some signs changed, put in or left out. */
    private void tellDrawnSigns() {
        StringBuilder text = new StringBuilder(below(4) == 0 ? "0123 4567 89 99" : drawnMesh());
        for (int i = below(4); i > 0 && text.length() > 0; i--) {
            char sign = below(20) == 0 ? (char) (1 + below(255)) : SIGNS.charAt(below(SIGNS.length()));
            int at = below(text.length());
            int way = below(3);
            if (way == 0) {
                text.setCharAt(at, sign);
            } else if (way == 1) {
                text.insert(at, sign);
            } else {
                text.deleteCharAt(at);
            }
        }
        if (below(3) > 0) {
            finish(0);
        }
        feed(text.toString());
        for (int sort = -1; sort <= 2; sort++) {
            same("fault(" + sort + ")", plain.fault(sort), mesh.fault(sort));
        }
        if (below(3) == 0) {
            int n = near(0, 240);
            finish(n);
            same("fault(0)", plain.fault(0), mesh.fault(0));
            same("fault(1)", plain.fault(1), mesh.fault(1));
        }
        int sort = near(0, 1);
        same("text(" + sort + ")", plain.text(sort), mesh.text(sort));
        askAll();
    }

    private void act() {
        int p = near(0, Math.max(0, plain.count(0) - 1));
        int way = below(30);
        if (way < 8) {
            int n = below(4) > 0 ? 1 + below(3) : near(1, 40);
            same("frames(" + n + ")", plain.frames(n), mesh.frames(n));
        } else if (way < 17) {
            int kind = below(3) == 0 ? 0 : near(0, 3);
            int n = kind == 3 && below(10) > 0 ? 0 : near(kind == 2 ? 0 : 1, 3);
            same("deal(" + p + ", " + kind + ", " + n + ")", plain.deal(p, kind, n), mesh.deal(p, kind, n));
        } else if (way < 20) {
            same("lose(" + p + ")", plain.lose(p), mesh.lose(p));
        } else if (way < 21) {
            int c = below(2) == 0 ? below(2) : near(0, 15);
            same("jam(" + c + ")", plain.jam(c), mesh.jam(c));
        } else if (way < 23) {
            int v = near(0, 9);
            same("load(" + p + ", " + v + ")", plain.load(p, v), mesh.load(p, v));
        } else if (way < 24) {
            same("auto()", plain.auto(), mesh.auto());
        } else if (way < 26) {
            int n = near(1, 40);
            long seed = random.nextLong();
            same("years(" + n + ", " + seed + ")", plain.years(n, seed), mesh.years(n, seed));
        } else if (way < 27) {
            int v = near(0, 9);
            same("loss(" + v + ")", plain.loss(v) ? 1 : 0, mesh.loss(v) ? 1 : 0);
        } else if (way < 29) {
            for (int i = below(5) == 0 ? 45 : 1 + below(3); i > 0; i--) {
                same("undo()", plain.undo(), mesh.undo());
            }
        } else if (below(2) == 0) {
            same("image()", plain.image(), mesh.image());
        } else {
            same("back()", plain.back(), mesh.back());
        }
    }

    private static int pairOf(java.util.function.IntSupplier call) {
        try {
            return call.getAsInt();
        } catch (NoSuchElementException e) {
            return -77;
        }
    }

    /** All that is so now. */
    private void askAll() {
        for (int p = -1; p <= plain.count(0); p++) {
            int q = p;
            for (int what = -1; what <= 13; what++) {
                int w = what;
                same("pair(" + p + ", " + what + ")", pairOf(() -> plain.pair(q, w)), pairOf(() -> mesh.pair(q, w)));
                same("letter(" + p + ", " + what + ")", plain.letter(p, what), mesh.letter(p, what));
            }
            for (int side = -1; side <= 2; side++) {
                for (int what = -1; what <= 3; what++) {
                    same("waits(" + p + ", " + side + ", " + what + ")", plain.waits(p, side, what),
                            mesh.waits(p, side, what));
                    for (int i = -1; i <= 6; i++) {
                        same("cell(" + p + ", " + side + ", " + i + ", " + what + ")", plain.cell(p, side, i, what),
                                mesh.cell(p, side, i, what));
                    }
                }
            }
            same("agree(" + p + ")", plain.agree(p), mesh.agree(p));
        }
        for (int what = -1; what <= 10; what++) {
            same("most(" + what + ")", plain.most(what), mesh.most(what));
            same("count(" + what + ")", plain.count(what), mesh.count(what));
            same("status(" + what + ")", plain.status(what), mesh.status(what));
            same("rule(" + what + ")", plain.rule(what), mesh.rule(what));
        }
        for (int node = -1; node <= 6; node++) {
            for (int what = -1; what <= 2; what++) {
                same("node(" + node + ", " + what + ")", plain.node(node, what), mesh.node(node, what));
            }
        }
        for (int i = -1; i <= 60; i += below(6) + 1) {
            for (int what = -1; what <= 3; what++) {
                same("log(" + i + ", " + what + ")", plain.log(i, what), mesh.log(i, what));
            }
        }
    }

    private void askAhead() {
        int p = near(0, Math.max(0, plain.count(0) - 1));
        int way = below(12);
        if (way < 3) {
            int n = near(0, 60);
            for (int what = -1; what <= 3; what++) {
                same("comes(" + p + ", " + n + ", " + what + ")", plain.comes(p, n, what), mesh.comes(p, n, what));
            }
        } else if (way < 4) {
            same("healed()", plain.healed(), mesh.healed());
        } else if (way < 5) {
            same("steady()", plain.steady(), mesh.steady());
        } else if (way < 6) {
            int n = near(1, 6);
            same("harm(" + n + ", 0)", plain.harm(n, 0), mesh.harm(n, 0));
            same("harm(" + n + ", 1)", plain.harm(n, 1), mesh.harm(n, 1));
        } else if (way < 7) {
            int n = near(0, 6);
            int chance = near(0, 100);
            same("odds(" + n + ", " + chance + ")", plain.odds(n, chance), mesh.odds(n, chance));
        } else if (way < 8) {
            int c = near(0, 999);
            same("shares(" + p + ", " + c + ")", plain.shares(p, c), mesh.shares(p, c));
        } else if (way < 10) {
            int f = near(0, 9999);
            int c = near(0, 170);
            same("channel(" + f + ", " + c + ")", plain.channel(f, c), mesh.channel(f, c));
        } else {
            int node = near(0, 5);
            int slot = near(0, 9);
            for (int i = -2; i <= 17; i++) {
                same("offer(" + p + ", " + node + ", " + slot + ", " + i + ")", plain.offer(p, node, slot, i),
                        mesh.offer(p, node, slot, i));
            }
        }
    }
}
