import com.sun.management.ThreadMXBean;
import java.lang.management.ManagementFactory;

/**
 * All calls of a run live in one room, and nothing in it is freed: what 512 calls make stays far below it. Counted in
 * bytes, of which an element has four at most and an object sixteen more.
 */
public final class RoomTest {
    private static final long ROOM = 4L * 7_300_000;
    private static int wrong = 0;

    public static void main(String[] args) {
        made("an object", ROOM / 512, () -> new CrowdOut());
        made("a full ground and the dearest calls", ROOM / 20, () -> {
            CrowdOut x = full();
            for (int i = 0; i < 40; i++) {
                x.worst(i % 3);
                x.design(300, 999, i % 4);
                x.out(i % 30, i % 4);
                x.holds(i % 12);
                x.ticks(20);
                x.wrong(i % 30, 999);
                x.next(i % 20, 0, true);
            }
        });
        made("queries", ROOM / 100, () -> {
            CrowdOut x = new CrowdOut();
            for (int i = 0; i < 10; i++) x.area(i % 4, 100);
            for (int i = 0; i < 500; i++) {
                x.feed(8, i);
                x.order(1);
                x.total(i);
            }
        });
        if (wrong != 0) System.exit(1);
    }

    private static void made(String what, long most, Runnable calls) {
        calls.run();
        ThreadMXBean bean = (ThreadMXBean) ManagementFactory.getThreadMXBean();
        long id = Thread.currentThread().getId();
        long before = bean.getThreadAllocatedBytes(id);
        calls.run();
        long bytes = bean.getThreadAllocatedBytes(id) - before;
        System.out.println(what + ": " + bytes + " bytes, " + most + " at most");
        if (bytes > most) wrong++;
    }

    private static CrowdOut full() {
        CrowdOut x = new CrowdOut();
        for (int i = 0; i < 20; i++) x.area(i < 2 ? 3 : i % 3, 100 + i);
        for (int i = 0; i < 30; i++) x.link(i % 20, (i * 7 + 1) % 20, 5 + i, 1 + i % 9);
        for (int i = 0; i < 24; i++) x.folk(2 + i % 18, 40, i % 2, i % 3);
        for (int i = 0; i < 8; i++) x.train(i % 2, 3, 4, 50);
        for (int i = 0; i < 4; i++) x.option(i, 4, 50);
        String text = "t<99&p05>50|!(h03=0):s05;o05;b03;k01;g01";
        for (int o = 0; o < 12; o++) {
            for (int i = 0; i < text.length(); i++) x.feed(1, text.charAt(i));
            x.order(1);
        }
        return x;
    }
}
