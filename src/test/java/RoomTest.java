import com.sun.management.ThreadMXBean;
import java.lang.management.ManagementFactory;

/** All calls of one run live in one room: what an object and its 512 calls make is measured here. */
public final class RoomTest {
    private static final String CORNER = "view 5 9;view 15 9;view 25 9;view 35 9;view 45 9;view 55 9;view 65 9;view 75 9;"
            + "tenant 99 5;tenant 99 25;tenant 99 45;tenant 99 65;tenant 99 85;";

    public static void main(String[] args) {
        ThreadMXBean threads = (ThreadMXBean) ManagementFactory.getThreadMXBean();
        long self = Thread.currentThread().getId();
        run();
        long before = threads.getThreadAllocatedBytes(self);
        run();
        long bytes = threads.getThreadAllocatedBytes(self) - before;
        System.out.println("an object and its 512 dearest calls make " + bytes + " bytes");
        // 40,000 bytes are some 10,000 elements; the room has 7.3 million.
        if (bytes > 40000) {
            System.exit(1);
        }
    }

    private static void run() {
        BubbleLeases x = new BubbleLeases();
        Bench.feed(x, CORNER);
        x.corner(CORNER.length());
        String law = "most[least[worth*walls,place],most[size,soap]]+(breath+blown)*tenant";
        Bench.feed(x, law);
        x.law(law.length());
        for (int i = 0; i < 40; i++) {
            x.span(i, 10, 8, 48, 2, 4);
            x.look(1);
            x.fits(0);
            x.street(1, 4);
            x.ahead(99, 1);
            x.sun(0, 31, 999);
            x.image();
            x.restore();
            String work = "again 30[blow 1 9;blow 2 9;blow 3 9;breath;];";
            Bench.feed(x, work);
            x.work(work.length());
            x.undo();
        }
    }
}
