import java.util.ArrayList;
import java.util.List;

/**
 * Two objects get the same calls; one of them gets others besides, that must change nothing but STATUS.
 * Then both are asked all that can be asked, as it is, as it would come, as FRAMES go and as ACTS are UNDONE.
 */
final class Twins {
    interface Calls {
        void on(HoppingMesh mesh);
    }

    private final Check check;

    Twins(Check check) {
        this.check = check;
    }

    /** What the calls between, if any, add to STATUS from 0 on; no more is added. */
    void unchanged(String name, Calls before, Calls between, int... status) {
        HoppingMesh plain = new HoppingMesh();
        HoppingMesh other = new HoppingMesh();
        before.on(plain);
        before.on(other);
        between.on(other);
        for (int what = 0; what < 5; what++) {
            int more = what < status.length ? status[what] : 0;
            check.due(name + ": status(" + what + ")", plain.status(what) + more, other.status(what));
        }
        alike(name, plain, other);
    }

    void alike(String name, HoppingMesh plain, HoppingMesh other) {
        Answers due = new Answers();
        Answers got = new Answers();
        due.askAll(plain);
        got.askAll(other);
        check.due(name + ": answers", due.values.size(), got.values.size());
        for (int i = 0; i < due.values.size() && i < got.values.size(); i++) {
            check.due(name + ": " + due.calls.get(i), due.values.get(i), got.values.get(i));
        }
    }

    private static final class Answers {
        private final List<String> calls = new ArrayList<>();
        private final List<Integer> values = new ArrayList<>();

        private void put(String call, int value) {
            calls.add(call);
            values.add(value);
        }

        void askAll(HoppingMesh mesh) {
            askNow(mesh);
            askAhead(mesh);
            put("frames(3)", mesh.frames(3));
            askPairs(mesh);
            for (int i = 0; i <= 40; i++) {
                int left = mesh.undo();
                put("undo " + i, left);
                put("FRAME then", mesh.count(3));
                if (left <= 0) {
                    break;
                }
            }
            askPairs(mesh);
            put("LOG then", mesh.log(0, 2));
            put("back", mesh.back());
            askPairs(mesh);
        }

        private void askNow(HoppingMesh mesh) {
            for (int what = 0; what <= 6; what++) {
                put("count(" + what + ")", mesh.count(what));
            }
            for (int what = 0; what <= 4; what++) {
                put("rule(" + what + ")", mesh.rule(what));
            }
            for (int what = 0; what <= 9; what++) {
                put("most(" + what + ")", mesh.most(what));
            }
            for (int node = 0; node <= 3; node++) {
                put("node(" + node + ", 0)", mesh.node(node, 0));
            }
            put("fault(0)", mesh.fault(0));
            put("fault(1)", mesh.fault(1));
            for (int i = 0; i < 60; i += 29) {
                for (int what = 0; what < 3; what++) {
                    put("log(" + i + ", " + what + ")", mesh.log(i, what));
                }
            }
            askPairs(mesh);
        }

        /** Two PAIRS at most: the others are seen by what they do to these. */
        private void askPairs(HoppingMesh mesh) {
            int pairs = Math.min(2, mesh.count(0));
            for (int p = 0; p < pairs; p++) {
                for (int what = 0; what <= 10; what++) {
                    put("pair(" + p + ", " + what + ")", mesh.pair(p, what));
                }
                int words = mesh.letter(p, 0) == HoppingMesh.NONE ? 0 : 10;
                for (int what = 0; what < words; what++) {
                    put("letter(" + p + ", " + what + ")", mesh.letter(p, what));
                }
                for (int side = 0; side < 2; side++) {
                    put("waits(" + p + ", " + side + ", 1)", mesh.waits(p, side, 1));
                    put("waits(" + p + ", " + side + ", 2)", mesh.waits(p, side, 2));
                    int cells = mesh.pair(p, 9 + side);
                    for (int i = 0; i < cells; i++) {
                        for (int what = 0; what < 3 - 2 * side; what++) {
                            put("cell(" + p + ", " + side + ", " + i + ", " + what + ")", mesh.cell(p, side, i, what));
                        }
                    }
                }
            }
        }

        private void askAhead(HoppingMesh mesh) {
            put("healed()", mesh.healed());
            put("steady()", mesh.steady());
            put("harm(6, 0)", mesh.harm(6, 0));
            put("harm(6, 1)", mesh.harm(6, 1));
            put("odds(6, 33)", mesh.odds(6, 33));
            for (int p = 0; p < mesh.count(0) && p < 2; p++) {
                put("comes(" + p + ", 9, 0)", mesh.comes(p, 9, 0));
                put("shares(" + p + ", 999)", mesh.shares(p, 999));
                put("channel", mesh.channel(p, 10 * p));
                put("offer", mesh.offer(p, mesh.pair(p, 0), 0, 0));
                put("offer", mesh.offer(p, mesh.pair(p, 1), 0, HoppingMesh.NONE));
            }
        }
    }
}
