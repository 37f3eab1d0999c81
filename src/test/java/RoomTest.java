import com.sun.management.ThreadMXBean;
import java.lang.management.ManagementFactory;

/** The dearest calls, 512 of each on one object, must make next to nothing anew. */
public final class RoomTest {
    private static final long MOST_BYTES = 200_000;
    private static final ThreadMXBean THREADS = (ThreadMXBean) ManagementFactory.getThreadMXBean();

    private static long bytes() {
        return THREADS.getThreadAllocatedBytes(Thread.currentThread().getId());
    }

    private static void use(SketchCache x, int kind, int i) {
        switch (kind) {
            case 0: x.run(i % 100, 7, 100); break;
            case 1: x.replay(i % 6, 30, 0, x.about(15)); break;
            case 2: x.save(i % 4); break;
            case 3: x.load(i % 4); break;
            default: x.sound(); break;
        }
    }

    private static long bytesOf(int kind) {
        long start = bytes();
        SketchCache x = new SketchCache(4, 200, 20);
        x.rule(4, 7);
        x.rule(5, 5);
        x.run(0, 1, 100);
        x.run(0, 3, 100);
        x.run(0, 9, 100);
        for (int place = 0; place < 4; place++) {
            x.save(place);
        }
        for (int i = 0; i < 500; i++) {
            use(x, kind, i);
        }
        return bytes() - start;
    }

    public static void main(String[] args) {
        Due due = new Due("RoomTest");
        // The first object also loads the classes, which is not the object's own room.
        for (int kind = 0; kind < 5; kind++) {
            bytesOf(kind);
        }
        for (int kind = 0; kind < 5; kind++) {
            long made = bytesOf(kind);
            due.is("kind " + kind + " made " + made + " bytes: within the room", made < MOST_BYTES ? 1 : 0, 1);
        }
        due.end();
    }
}
