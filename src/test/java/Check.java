import java.util.NoSuchElementException;
import java.util.TreeMap;

/** What the tests share: answers are compared, wrong ones are told, and the exit code tells whether there was one. */
final class Check {
    private final TreeMap<Integer, Integer> sentences = new TreeMap<>();
    private String sentence = "";
    private int calls;
    private int wrong;

    /** All answers from here on belong to that sentence of that promise. */
    void promise(int number, String told) {
        sentence = "promise " + number + ", " + told + ": ";
        sentences.merge(number, 1, Integer::sum);
    }

    void due(String call, long want, long got) {
        calls++;
        if (got != want) {
            wrong++;
            System.out.println(sentence + call + " answered " + got + ", due is " + want);
        }
    }

    void due(String call, boolean want, boolean got) {
        due(call, want ? 1 : 0, got ? 1 : 0);
    }

    void throwsNoSuchElement(HoppingMesh mesh, int pair, int what) {
        boolean thrown = false;
        try {
            mesh.pair(pair, what);
        } catch (NoSuchElementException e) {
            thrown = true;
        }
        due("pair(" + pair + ", " + what + ") throws", true, thrown);
    }

    /** STATUS from 0 on. */
    void status(HoppingMesh mesh, int... want) {
        for (int what = 0; what < want.length; what++) {
            due("status(" + what + ")", want[what], mesh.status(what));
        }
    }

    /** The CELLS of one side, and none behind them. */
    void table(HoppingMesh mesh, int pair, int side, int... cells) {
        for (int i = 0; i <= cells.length; i++) {
            due("cell(" + pair + ", " + side + ", " + i + ", 0)", i < cells.length ? cells[i] : HoppingMesh.NONE,
                    mesh.cell(pair, side, i, 0));
        }
    }

    /** The CELLS of both sides, and that both AGREE. */
    void tables(HoppingMesh mesh, int pair, int... cells) {
        table(mesh, pair, 0, cells);
        table(mesh, pair, 1, cells);
        due("agree(" + pair + ")", 1, mesh.agree(pair));
    }

    /** The LETTER's words from 0 on; those behind them up to 13 are NONE. */
    void letter(HoppingMesh mesh, int pair, int... words) {
        for (int what = 0; what <= 13; what++) {
            due("letter(" + pair + ", " + what + ")", what < words.length ? words[what] : HoppingMesh.NONE,
                    mesh.letter(pair, what));
        }
    }

    void waits(HoppingMesh mesh, int pair, int side, int... words) {
        for (int what = 0; what < words.length; what++) {
            due("waits(" + pair + ", " + side + ", " + what + ")", words[what], mesh.waits(pair, side, what));
        }
    }

    void end(String name) {
        System.out.println(name + ": " + calls + " answers, " + wrong + " not as due");
        if (wrong > 0 || calls == 0) {
            System.exit(1);
        }
    }

    /** Ends a test that goes through promises: each of them must have had a sentence. */
    void end(String name, int firstPromise, int lastPromise) {
        for (int number = firstPromise; number <= lastPromise; number++) {
            due("sentences of promise " + number, true, sentences.containsKey(number));
            System.out.println("  promise " + number + ": " + sentences.getOrDefault(number, 0) + " sentences");
        }
        end(name);
    }

    /** The sign 0 can't be fed, so a text is told without it. */
    static int feed(HoppingMesh mesh, String text) {
        int last = mesh.count(2);
        for (int i = 0; i < text.length(); i += 20) {
            int[] words = new int[5];
            for (int j = 0; j < 20 && i + j < text.length(); j++) {
                words[j / 4] |= (text.charAt(i + j) & 255) << 24 - j % 4 * 8;
            }
            last = mesh.feed(words[0], words[1], words[2], words[3], words[4]);
        }
        return last;
    }

    static HoppingMesh mesh(String text) {
        HoppingMesh mesh = new HoppingMesh();
        tell(mesh, text, 0);
        return mesh;
    }

    static HoppingMesh mesh(String text, String hops) {
        HoppingMesh mesh = mesh(text);
        tell(mesh, hops, 1);
        return mesh;
    }

    static void tell(HoppingMesh mesh, String text, int sort) {
        mesh.end(0);
        feed(mesh, text);
        if (mesh.text(sort) == HoppingMesh.NONE) {
            throw new IllegalStateException("not told: " + text);
        }
    }
}
