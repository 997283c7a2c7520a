import java.util.NoSuchElementException;

/** What the tests share: answers are compared, wrong ones are told, and the exit code tells whether there was one. */
final class Check {
    private int calls;
    private int wrong;

    void due(String call, long want, long got) {
        calls++;
        if (got != want) {
            wrong++;
            System.out.println(call + " answered " + got + ", due is " + want);
        }
    }

    void due(String call, boolean want, boolean got) {
        due(call, want ? 1 : 0, got ? 1 : 0);
    }

    void throwsNoSuchElement(HoppingMesh mesh, int pair, int what) {
        boolean thrown = false;
        try {
            mesh.pair(pair, what);
        } catch (NoSuchElementException e) {
            thrown = true;
        }
        due("pair(" + pair + ", " + what + ") throws", true, thrown);
    }

    void end(String name) {
        System.out.println(name + ": " + calls + " answers, " + wrong + " not as due");
        if (wrong > 0 || calls == 0) {
            System.exit(1);
        }
    }

    /** The sign 0 can't be fed, so a text is told without it. */
    static int feed(HoppingMesh mesh, String text) {
        int last = mesh.count(2);
        for (int i = 0; i < text.length(); i += 20) {
            int[] words = new int[5];
            for (int j = 0; j < 20 && i + j < text.length(); j++) {
                words[j / 4] |= (text.charAt(i + j) & 255) << 24 - j % 4 * 8;
            }
            last = mesh.feed(words[0], words[1], words[2], words[3], words[4]);
        }
        return last;
    }

    static HoppingMesh mesh(String text) {
        HoppingMesh mesh = new HoppingMesh();
        tell(mesh, text, 0);
        return mesh;
    }

    static void tell(HoppingMesh mesh, String text, int sort) {
        mesh.end(0);
        feed(mesh, text);
        if (mesh.text(sort) == HoppingMesh.NONE) {
            throw new IllegalStateException("not told: " + text);
        }
    }
}
