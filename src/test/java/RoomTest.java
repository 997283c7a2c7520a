import java.lang.management.ManagementFactory;

/** All calls of a run live in one room: what 512 of the dearest calls make is counted in bytes, 4 a number. */
public final class RoomTest {
    private static final Check CHECK = new Check();

    public static void main(String[] args) {
        dearestCalls();
        manyObjects();
        CHECK.end("RoomTest");
    }

    private static long made() {
        var bean = (com.sun.management.ThreadMXBean) ManagementFactory.getThreadMXBean();
        return bean.getThreadAllocatedBytes(Thread.currentThread().getId());
    }

    private static long oneRun() {
        long before = made();
        HoppingMesh mesh = Check.mesh("sw16c4m2;pa0b1l9;pa1b2l9;pa2b3l9k3;pa3b4l9;pa4b5l9k3;pa5b0l9");
        for (int i = 0; i < 60; i++) {
            mesh.frames(40);
            mesh.years(40, i);
            mesh.comes(0, 60, 0);
            mesh.steady();
            mesh.healed();
            mesh.harm(6, 0);
            mesh.odds(6, 50);
            mesh.undo();
        }
        return made() - before;
    }

    private static void dearestCalls() {
        oneRun();
        long bytes = oneRun();
        System.out.println("one run of 500 calls makes " + bytes + " bytes");
        CHECK.due("one run makes less than 200,000 bytes", true, bytes < 200000);
    }

    private static void manyObjects() {
        long before = made();
        for (int i = 0; i < 100; i++) {
            Check.mesh("p").frames(40);
        }
        long bytes = made() - before;
        System.out.println("100 objects with 40 ACTS each make " + bytes + " bytes");
        CHECK.due("100 objects make less than a third of the room", true, bytes < 7300000L * 4 / 3);
    }
}
